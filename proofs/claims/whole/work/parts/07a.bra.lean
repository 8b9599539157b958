/-! MappedProcessor$Branches.taken(II)Z -/
theorem d_Bra_taken_0 : decode b_Bra_taken 0 = .ok (.iconst 1, 1) := by decide +kernel
theorem d_Bra_taken_1 : decode b_Bra_taken 1 = .ok (.istore_n 3, 1) := by decide +kernel
theorem d_Bra_taken_2 : decode b_Bra_taken 2 = .ok (.iload_n 1, 1) := by decide +kernel
theorem d_Bra_taken_3 : decode b_Bra_taken 3 = .ok (.iconst 4, 1) := by decide +kernel
theorem d_Bra_taken_4 : decode b_Bra_taken 4 = .ok (.iand, 1) := by decide +kernel
theorem d_Bra_taken_5 : decode b_Bra_taken 5 = .ok (.ifCond .ne 55, 3) := by decide +kernel
theorem d_Bra_taken_8 : decode b_Bra_taken 8 = .ok (.aload_n 0, 1) := by decide +kernel
theorem d_Bra_taken_9 : decode b_Bra_taken 9 = .ok (.getfield 9, 3) := by decide +kernel
theorem d_Bra_taken_12 : decode b_Bra_taken 12 = .ok (.iconst 5, 1) := by decide +kernel
theorem d_Bra_taken_13 : decode b_Bra_taken 13 = .ok (.invokevirtual 51, 3) := by decide +kernel
theorem d_Bra_taken_16 : decode b_Bra_taken 16 = .ok (.iconst 1, 1) := by decide +kernel
theorem d_Bra_taken_17 : decode b_Bra_taken 17 = .ok (.isub, 1) := by decide +kernel
theorem d_Bra_taken_18 : decode b_Bra_taken 18 = .ok (.istore 4, 2) := by decide +kernel
theorem d_Bra_taken_20 : decode b_Bra_taken 20 = .ok (.aload_n 0, 1) := by decide +kernel
theorem d_Bra_taken_21 : decode b_Bra_taken 21 = .ok (.getfield 9, 3) := by decide +kernel
theorem d_Bra_taken_24 : decode b_Bra_taken 24 = .ok (.iconst 5, 1) := by decide +kernel
theorem d_Bra_taken_25 : decode b_Bra_taken 25 = .ok (.iload 4, 2) := by decide +kernel
theorem d_Bra_taken_27 : decode b_Bra_taken 27 = .ok (.invokevirtual 74, 3) := by decide +kernel
theorem d_Bra_taken_30 : decode b_Bra_taken 30 = .ok (.iload 4, 2) := by decide +kernel
theorem d_Bra_taken_32 : decode b_Bra_taken 32 = .ok (.ifCond .ne 7, 3) := by decide +kernel
theorem d_Bra_taken_35 : decode b_Bra_taken 35 = .ok (.iconst 1, 1) := by decide +kernel
theorem d_Bra_taken_36 : decode b_Bra_taken 36 = .ok (.goto 4, 3) := by decide +kernel
theorem d_Bra_taken_39 : decode b_Bra_taken 39 = .ok (.iconst 0, 1) := by decide +kernel
theorem d_Bra_taken_40 : decode b_Bra_taken 40 = .ok (.iload_n 1, 1) := by decide +kernel
theorem d_Bra_taken_41 : decode b_Bra_taken 41 = .ok (.iconst 2, 1) := by decide +kernel
theorem d_Bra_taken_42 : decode b_Bra_taken 42 = .ok (.iand, 1) := by decide +kernel
theorem d_Bra_taken_43 : decode b_Bra_taken 43 = .ok (.ifCond .eq 7, 3) := by decide +kernel
theorem d_Bra_taken_46 : decode b_Bra_taken 46 = .ok (.iconst 1, 1) := by decide +kernel
theorem d_Bra_taken_47 : decode b_Bra_taken 47 = .ok (.goto 4, 3) := by decide +kernel
theorem d_Bra_taken_50 : decode b_Bra_taken 50 = .ok (.iconst 0, 1) := by decide +kernel
theorem d_Bra_taken_51 : decode b_Bra_taken 51 = .ok (.if_icmp .ne 7, 3) := by decide +kernel
theorem d_Bra_taken_54 : decode b_Bra_taken 54 = .ok (.iconst 1, 1) := by decide +kernel
theorem d_Bra_taken_55 : decode b_Bra_taken 55 = .ok (.goto 4, 3) := by decide +kernel
theorem d_Bra_taken_58 : decode b_Bra_taken 58 = .ok (.iconst 0, 1) := by decide +kernel
theorem d_Bra_taken_59 : decode b_Bra_taken 59 = .ok (.istore_n 3, 1) := by decide +kernel
theorem d_Bra_taken_60 : decode b_Bra_taken 60 = .ok (.iload_n 1, 1) := by decide +kernel
theorem d_Bra_taken_61 : decode b_Bra_taken 61 = .ok (.bipush 16, 2) := by decide +kernel
theorem d_Bra_taken_63 : decode b_Bra_taken 63 = .ok (.iand, 1) := by decide +kernel
theorem d_Bra_taken_64 : decode b_Bra_taken 64 = .ok (.ifCond .ne 19, 3) := by decide +kernel
theorem d_Bra_taken_67 : decode b_Bra_taken 67 = .ok (.aload_n 0, 1) := by decide +kernel
theorem d_Bra_taken_68 : decode b_Bra_taken 68 = .ok (.getfield 9, 3) := by decide +kernel
theorem d_Bra_taken_71 : decode b_Bra_taken 71 = .ok (.iload_n 2, 1) := by decide +kernel
theorem d_Bra_taken_72 : decode b_Bra_taken 72 = .ok (.invokevirtual 60, 3) := by decide +kernel
theorem d_Bra_taken_75 : decode b_Bra_taken 75 = .ok (.iload_n 1, 1) := by decide +kernel
theorem d_Bra_taken_76 : decode b_Bra_taken 76 = .ok (.iconst 3, 1) := by decide +kernel
theorem d_Bra_taken_77 : decode b_Bra_taken 77 = .ok (.ishr, 1) := by decide +kernel
theorem d_Bra_taken_78 : decode b_Bra_taken 78 = .ok (.iconst 1, 1) := by decide +kernel
theorem d_Bra_taken_79 : decode b_Bra_taken 79 = .ok (.iand, 1) := by decide +kernel
theorem d_Bra_taken_80 : decode b_Bra_taken 80 = .ok (.if_icmp .ne 7, 3) := by decide +kernel
theorem d_Bra_taken_83 : decode b_Bra_taken 83 = .ok (.iconst 1, 1) := by decide +kernel
theorem d_Bra_taken_84 : decode b_Bra_taken 84 = .ok (.goto 4, 3) := by decide +kernel
theorem d_Bra_taken_87 : decode b_Bra_taken 87 = .ok (.iconst 0, 1) := by decide +kernel
theorem d_Bra_taken_88 : decode b_Bra_taken 88 = .ok (.istore 4, 2) := by decide +kernel
theorem d_Bra_taken_90 : decode b_Bra_taken 90 = .ok (.iload_n 3, 1) := by decide +kernel
theorem d_Bra_taken_91 : decode b_Bra_taken 91 = .ok (.ifCond .eq 12, 3) := by decide +kernel
theorem d_Bra_taken_94 : decode b_Bra_taken 94 = .ok (.iload 4, 2) := by decide +kernel
theorem d_Bra_taken_96 : decode b_Bra_taken 96 = .ok (.ifCond .eq 7, 3) := by decide +kernel
theorem d_Bra_taken_99 : decode b_Bra_taken 99 = .ok (.iconst 1, 1) := by decide +kernel
theorem d_Bra_taken_100 : decode b_Bra_taken 100 = .ok (.goto 4, 3) := by decide +kernel
theorem d_Bra_taken_103 : decode b_Bra_taken 103 = .ok (.iconst 0, 1) := by decide +kernel
theorem d_Bra_taken_104 : decode b_Bra_taken 104 = .ok (.ireturn, 1) := by decide +kernel
def f_Bra_taken (p0 : Int32) (p1 : Int32) (sp : Nat → Int32) : Int32 × (Nat → Int32) :=
  if (p0 &&& (4 : Int32)) = (0 : Int32) then
    if (p0 &&& (16 : Int32)) = (0 : Int32) then
      ((if (if (if ((f_Sta_read (5 : Int32) sp) - (1 : Int32)) = (0 : Int32) then (1 : Int32) else (0 : Int32)) = (if (p0 &&& (2 : Int32)) = (0 : Int32) then (0 : Int32) else (1 : Int32)) then (1 : Int32) else (0 : Int32)) = (0 : Int32) then (0 : Int32) else (if (if (f_Sta_conditionBit p1 (f_Sta_keep (5 : Int32) ((f_Sta_read (5 : Int32) sp) - (1 : Int32)) sp)) = ((shr p0 (3 : Int32)) &&& (1 : Int32)) then (1 : Int32) else (0 : Int32)) = (0 : Int32) then (0 : Int32) else (1 : Int32))), (f_Sta_keep (5 : Int32) ((f_Sta_read (5 : Int32) sp) - (1 : Int32)) sp))
    else
      if (if (if ((f_Sta_read (5 : Int32) sp) - (1 : Int32)) = (0 : Int32) then (1 : Int32) else (0 : Int32)) = (if (p0 &&& (2 : Int32)) = (0 : Int32) then (0 : Int32) else (1 : Int32)) then (1 : Int32) else (0 : Int32)) = (0 : Int32) then
        ((0 : Int32), (f_Sta_keep (5 : Int32) ((f_Sta_read (5 : Int32) sp) - (1 : Int32)) sp))
      else
        ((1 : Int32), (f_Sta_keep (5 : Int32) ((f_Sta_read (5 : Int32) sp) - (1 : Int32)) sp))
  else
    if (p0 &&& (16 : Int32)) = (0 : Int32) then
      ((if (if (f_Sta_conditionBit p1 sp) = ((shr p0 (3 : Int32)) &&& (1 : Int32)) then (1 : Int32) else (0 : Int32)) = (0 : Int32) then (0 : Int32) else (1 : Int32)), sp)
    else
      ((1 : Int32), sp)
set_option maxHeartbeats 4000000 in
set_option maxRecDepth 100000 in
theorem ib_Bra_taken (p0 : Int32) (p1 : Int32) (sp : Nat → Int32) : isB (f_Bra_taken p0 p1 sp).1 := by
  unfold f_Bra_taken
  try dsimp only
  repeat' (first | refine ib_ite ?_ ?_ | refine ib_ite0 ?_ ?_ | with_reducible exact ib0 | with_reducible exact ib1 | (dsimp only; first | exact ib0 | exact ib1))
theorem nb_Bra_taken (p0 : Int32) (p1 : Int32) (sp : Nat → Int32) : narrow .boolean (.int (f_Bra_taken p0 p1 sp).1) = .int (f_Bra_taken p0 p1 sp).1 := nb_of (ib_Bra_taken p0 p1 sp)
set_option maxHeartbeats 4000000 in
set_option maxRecDepth 100000 in
theorem c_Bra_taken (l : Launch) (D : va_G) (aS aG aX aB : Nat) (cG cX : ClassId) (g : Nat → Int32) (sp : Nat → Int32) (nx : Int32) (lt : Int32) (sm : Int32) (ex : Int32) (p0 : Int32) (p1 : Int32) : kMi l y_Bra_taken b_Bra_taken 5 (some .boolean) 1 22 D kCl [(cG, .int), (cX, .int)] [.ref aB, .int p0, .int p1] [(aS, .inr (9, [.ref aG, .ref aX, .int nx, .int lt, .int sm, .int ex])), (aG, .inl (cG, 32, .inl g)), (aX, .inl (cX, 64, .inl sp)), (aB, .inr (2, [.ref aS]))] (f_Bra_taken p0 p1 sp).1 [(aS, .inr (9, [.ref aG, .ref aX, .int nx, .int lt, .int sm, .int ex])), (aG, .inl (cG, 32, .inl g)), (aX, .inl (cX, 64, .inl (f_Bra_taken p0 p1 sp).2)), (aB, .inr (2, [.ref aS]))] := by
  refine k_entry (Qc := fun A => kQi D kCl [(cG, .int), (cX, .int)] (f_Bra_taken p0 p1 sp).1 [(aS, .inr (9, [.ref aG, .ref aX, .int nx, .int lt, .int sm, .int ex])), (aG, .inl (cG, 32, .inl g)), (aX, .inl (cX, 64, .inl (f_Bra_taken p0 p1 sp).2)), (aB, .inr (2, [.ref aS]))] A) (lv := [(0, .ref aB), (1, .int p0), (2, .int p1)]) (by decide) (Nat.le_of_ble_eq_true rfl) rfl ?_
  intro p e s m below meth c A ls hx hb hr hml hB hown hlocks hin hA hK hN hP hD hS hl
  have hown : s.vm.findClass "MappedProcessor$Branches" = some m.cls := hown
  refine lv_iconst (v := (1 : Int32)) hx hb d_Bra_taken_0 (by decide) ?_
  refine lv_istore_n (lv' := [(3, .int (1 : Int32)), (0, .ref aB), (1, .int p0), (2, .int p1)]) hx hb d_Bra_taken_1 rfl hl (by decide) rfl (fun ls hl => ?_)
  refine lv_iload_n hx hb d_Bra_taken_2 rfl (lv_at hl 2 rfl) ?_
  refine lv_iconst (v := (4 : Int32)) hx hb d_Bra_taken_3 (by decide) ?_
  refine lv_iand hx hb d_Bra_taken_4 ?_
  refine lv_if_ne (tgt := 60) hx hb d_Bra_taken_5 (by decide) (fun (h4 : ¬ (p0 &&& (4 : Int32)) = (0 : Int32)) => ?_) (fun (h4 : (p0 &&& (4 : Int32)) = (0 : Int32)) => ?_)
  · refine lv_iload_n hx hb d_Bra_taken_60 rfl (lv_at hl 2 rfl) ?_
    refine lv_bipush (v := (16 : Int32)) hx hb d_Bra_taken_61 (by decide) ?_
    refine lv_iand hx hb d_Bra_taken_63 ?_
    refine lv_if_ne (tgt := 83) hx hb d_Bra_taken_64 (by decide) (fun (h8 : ¬ (p0 &&& (16 : Int32)) = (0 : Int32)) => ?_) (fun (h8 : (p0 &&& (16 : Int32)) = (0 : Int32)) => ?_)
    · refine lv_iconst (v := (1 : Int32)) hx hb d_Bra_taken_83 (by decide) ?_
      refine lv_goto (tgt := 88) hx hb d_Bra_taken_84 (by decide) ?_
      refine lv_istore (lv' := [(4, .int (1 : Int32)), (3, .int (1 : Int32)), (0, .ref aB), (1, .int p0), (2, .int p1)]) hx hb d_Bra_taken_88 hl (by decide) rfl (fun ls hl => ?_)
      refine lv_iload_n hx hb d_Bra_taken_90 rfl (lv_at hl 1 rfl) ?_
      refine lv_if_eq (tgt := 103) hx hb d_Bra_taken_91 (by decide) (fun h9 => ?_) (fun h9 => ?_)
      · exact absurd h9 (by decide)
      refine lv_iload hx hb d_Bra_taken_94 (lv_at hl 0 rfl) ?_
      refine lv_if_eq (tgt := 103) hx hb d_Bra_taken_96 (by decide) (fun h10 => ?_) (fun h10 => ?_)
      · exact absurd h10 (by decide)
      refine lv_iconst (v := (1 : Int32)) hx hb d_Bra_taken_99 (by decide) ?_
      refine lv_goto (tgt := 104) hx hb d_Bra_taken_100 (by decide) ?_
      have ef : f_Bra_taken p0 p1 sp = ((1 : Int32), sp) := by unfold f_Bra_taken; rw [if_neg h4, if_neg h8]
      exact k_zret hx hb hr hlocks hK hP hD hS [0, 1, 2, 3] rfl (by rw [ef] <;> rfl) (by rw [ef] <;> rfl) nb1 d_Bra_taken_104
    · refine lv_aload_n hx hb d_Bra_taken_67 rfl (lv_at hl 1 rfl) ?_
      refine va_get (D := D) (ci := 2) (v := .ref aS) (C := "MappedProcessor$Branches") (T := T_Bra) (N := 1) hx hb hB iw_Bra hown hK hP 3 rfl rfl 0 (by decide) (hB _ mw_179) (fun _ h9 => h9) rfl d_Bra_taken_68 ?_
      refine lv_iload_n hx hb d_Bra_taken_71 rfl (lv_at hl 3 rfl) ?_
      refine k_cVi (As := [.int p1]) (rest := []) (wr := [(aB, .inr (2, [.ref aS]))]) (wj := [(aS, .inr (9, [.ref aG, .ref aX, .int nx, .int lt, .int sm, .int ex])), (aG, .inl (cG, 32, .inl g)), (aX, .inl (cX, 64, .inl sp)), (aB, .inr (2, [.ref aS]))]) ⟨hx, hb, hml, hown, hB⟩ (c_Sta_conditionBit l D aS aG aX cG cX g sp nx lt sm ex p1) yl_Sta_conditionBit mw_434 hK hN hP hD hS hA [0, 1] [0, 1, 2] [3] [1, 2, 3, 0] rfl rfl rfl rfl (by decide +kernel) 0 rfl rfl rfl rfl hl.1 rfl (Nat.le_of_ble_eq_true rfl) ⟨Nat.le_of_ble_eq_true rfl, Nat.le_of_ble_eq_true rfl⟩ d_Bra_taken_72 ⟨Nat.le_of_ble_eq_true rfl, Nat.le_of_ble_eq_true rfl⟩ (fun H locs hP hD hS => ?_)
      refine lv_iload_n hx hb d_Bra_taken_75 rfl (lv_at hl 2 rfl) ?_
      refine lv_iconst (v := (3 : Int32)) hx hb d_Bra_taken_76 (by decide) ?_
      refine lv_ishr hx hb d_Bra_taken_77 ?_
      refine lv_iconst (v := (1 : Int32)) hx hb d_Bra_taken_78 (by decide) ?_
      refine lv_iand hx hb d_Bra_taken_79 ?_
      refine k_join2 (c0 := (f_Sta_conditionBit p1 sp) = ((shr p0 (3 : Int32)) &&& (1 : Int32))) (x1 := (1 : Int32)) (x2 := (0 : Int32)) (rest := []) 88 ?_ (fun k12 k13 => ?_)
      rotate_left
      · refine lv_icmp_ne (tgt := 87) hx hb d_Bra_taken_80 (by decide) (fun (h11 : ¬ (f_Sta_conditionBit p1 sp) = ((shr p0 (3 : Int32)) &&& (1 : Int32))) => ?_) (fun (h11 : (f_Sta_conditionBit p1 sp) = ((shr p0 (3 : Int32)) &&& (1 : Int32))) => ?_)
        · refine lv_iconst (v := (0 : Int32)) hx hb d_Bra_taken_87 (by decide) ?_
          exact k13 h11
        · refine lv_iconst (v := (1 : Int32)) hx hb d_Bra_taken_83 (by decide) ?_
          refine lv_goto (tgt := 88) hx hb d_Bra_taken_84 (by decide) ?_
          exact k12 h11
      refine lv_istore (lv' := [(4, .int (if (f_Sta_conditionBit p1 sp) = ((shr p0 (3 : Int32)) &&& (1 : Int32)) then (1 : Int32) else (0 : Int32))), (3, .int (1 : Int32)), (0, .ref aB), (1, .int p0), (2, .int p1)]) hx hb d_Bra_taken_88 hl (by decide) rfl (fun ls hl => ?_)
      refine lv_iload_n hx hb d_Bra_taken_90 rfl (lv_at hl 1 rfl) ?_
      refine lv_if_eq (tgt := 103) hx hb d_Bra_taken_91 (by decide) (fun h16 => ?_) (fun h16 => ?_)
      · exact absurd h16 (by decide)
      refine lv_iload hx hb d_Bra_taken_94 (lv_at hl 0 rfl) ?_
      refine k_join2 (c0 := (if (f_Sta_conditionBit p1 sp) = ((shr p0 (3 : Int32)) &&& (1 : Int32)) then (1 : Int32) else (0 : Int32)) = (0 : Int32)) (x1 := (0 : Int32)) (x2 := (1 : Int32)) (rest := []) 104 ?_ (fun k18 k19 => ?_)
      rotate_left
      · refine lv_if_eq (tgt := 103) hx hb d_Bra_taken_96 (by decide) (fun (h17 : (if (f_Sta_conditionBit p1 sp) = ((shr p0 (3 : Int32)) &&& (1 : Int32)) then (1 : Int32) else (0 : Int32)) = (0 : Int32)) => ?_) (fun (h17 : ¬ (if (f_Sta_conditionBit p1 sp) = ((shr p0 (3 : Int32)) &&& (1 : Int32)) then (1 : Int32) else (0 : Int32)) = (0 : Int32)) => ?_)
        · refine lv_iconst (v := (0 : Int32)) hx hb d_Bra_taken_103 (by decide) ?_
          exact k18 h17
        · refine lv_iconst (v := (1 : Int32)) hx hb d_Bra_taken_99 (by decide) ?_
          refine lv_goto (tgt := 104) hx hb d_Bra_taken_100 (by decide) ?_
          exact k19 h17
      have ef : f_Bra_taken p0 p1 sp = ((if (if (f_Sta_conditionBit p1 sp) = ((shr p0 (3 : Int32)) &&& (1 : Int32)) then (1 : Int32) else (0 : Int32)) = (0 : Int32) then (0 : Int32) else (1 : Int32)), sp) := by unfold f_Bra_taken; rw [if_neg h4, if_pos h8]
      exact k_zret hx hb hr hlocks hK hP hD hS [0, 1, 2, 3] rfl (by rw [ef] <;> rfl) (by rw [ef] <;> rfl) (nb_ite nb0 nb1) d_Bra_taken_104
  · refine lv_aload_n hx hb d_Bra_taken_8 rfl (lv_at hl 1 rfl) ?_
    refine va_get (D := D) (ci := 2) (v := .ref aS) (C := "MappedProcessor$Branches") (T := T_Bra) (N := 1) hx hb hB iw_Bra hown hK hP 3 rfl rfl 0 (by decide) (hB _ mw_179) (fun _ h9 => h9) rfl d_Bra_taken_9 ?_
    refine lv_iconst (v := (5 : Int32)) hx hb d_Bra_taken_12 (by decide) ?_
    refine k_cVi (As := [.int (5 : Int32)]) (rest := []) (wr := [(aB, .inr (2, [.ref aS]))]) (wj := [(aS, .inr (9, [.ref aG, .ref aX, .int nx, .int lt, .int sm, .int ex])), (aG, .inl (cG, 32, .inl g)), (aX, .inl (cX, 64, .inl sp)), (aB, .inr (2, [.ref aS]))]) ⟨hx, hb, hml, hown, hB⟩ (c_Sta_read l D aS aG aX cG cX g sp nx lt sm ex (5 : Int32)) yl_Sta_read mw_432 hK hN hP hD hS hA [0, 1] [0, 1, 2] [3] [1, 2, 3, 0] rfl rfl rfl rfl (by decide +kernel) 0 rfl rfl rfl rfl hl.1 rfl (Nat.le_of_ble_eq_true rfl) ⟨Nat.le_of_ble_eq_true rfl, Nat.le_of_ble_eq_true rfl⟩ d_Bra_taken_13 ⟨Nat.le_of_ble_eq_true rfl, Nat.le_of_ble_eq_true rfl⟩ (fun H locs hP hD hS => ?_)
    refine lv_iconst (v := (1 : Int32)) hx hb d_Bra_taken_16 (by decide) ?_
    refine lv_isub hx hb d_Bra_taken_17 ?_
    refine lv_istore (lv' := [(4, .int ((f_Sta_read (5 : Int32) sp) - (1 : Int32))), (3, .int (1 : Int32)), (0, .ref aB), (1, .int p0), (2, .int p1)]) hx hb d_Bra_taken_18 hl (by decide) rfl (fun ls hl => ?_)
    refine lv_aload_n hx hb d_Bra_taken_20 rfl (lv_at hl 2 rfl) ?_
    refine va_get (D := D) (ci := 2) (v := .ref aS) (C := "MappedProcessor$Branches") (T := T_Bra) (N := 1) hx hb hB iw_Bra hown hK hP 3 rfl rfl 0 (by decide) (hB _ mw_179) (fun _ h9 => h9) rfl d_Bra_taken_21 ?_
    refine lv_iconst (v := (5 : Int32)) hx hb d_Bra_taken_24 (by decide) ?_
    refine lv_iload hx hb d_Bra_taken_25 (lv_at hl 0 rfl) ?_
    refine k_cVv (As := [.int (5 : Int32), .int ((f_Sta_read (5 : Int32) sp) - (1 : Int32))]) (rest := []) (wr := [(aB, .inr (2, [.ref aS]))]) (wj := [(aS, .inr (9, [.ref aG, .ref aX, .int nx, .int lt, .int sm, .int ex])), (aG, .inl (cG, 32, .inl g)), (aX, .inl (cX, 64, .inl (f_Sta_keep (5 : Int32) ((f_Sta_read (5 : Int32) sp) - (1 : Int32)) sp))), (aB, .inr (2, [.ref aS]))]) ⟨hx, hb, hml, hown, hB⟩ (c_Sta_keep l D aS aG aX cG cX g sp nx lt sm ex (5 : Int32) ((f_Sta_read (5 : Int32) sp) - (1 : Int32))) yl_Sta_keep mw_433 hK hN hP hD hS hA [0, 1] [0, 1, 2] [3] [1, 2, 3, 0] rfl rfl rfl rfl (by decide +kernel) 0 rfl rfl rfl rfl hl.1 rfl (Nat.le_of_ble_eq_true rfl) ⟨Nat.le_of_ble_eq_true rfl, Nat.le_of_ble_eq_true rfl⟩ d_Bra_taken_27 ⟨Nat.le_of_ble_eq_true rfl, Nat.le_of_ble_eq_true rfl⟩ (fun H locs hP hD hS => ?_)
    refine lv_iload hx hb d_Bra_taken_30 (lv_at hl 0 rfl) ?_
    refine k_join2 (c0 := ((f_Sta_read (5 : Int32) sp) - (1 : Int32)) = (0 : Int32)) (x1 := (1 : Int32)) (x2 := (0 : Int32)) (rest := []) 40 ?_ (fun k23 k24 => ?_)
    rotate_left
    · refine lv_if_ne (tgt := 39) hx hb d_Bra_taken_32 (by decide) (fun (h22 : ¬ ((f_Sta_read (5 : Int32) sp) - (1 : Int32)) = (0 : Int32)) => ?_) (fun (h22 : ((f_Sta_read (5 : Int32) sp) - (1 : Int32)) = (0 : Int32)) => ?_)
      · refine lv_iconst (v := (0 : Int32)) hx hb d_Bra_taken_39 (by decide) ?_
        exact k24 h22
      · refine lv_iconst (v := (1 : Int32)) hx hb d_Bra_taken_35 (by decide) ?_
        refine lv_goto (tgt := 40) hx hb d_Bra_taken_36 (by decide) ?_
        exact k23 h22
    refine lv_iload_n hx hb d_Bra_taken_40 rfl (lv_at hl 3 rfl) ?_
    refine lv_iconst (v := (2 : Int32)) hx hb d_Bra_taken_41 (by decide) ?_
    refine lv_iand hx hb d_Bra_taken_42 ?_
    refine k_join2 (c0 := (p0 &&& (2 : Int32)) = (0 : Int32)) (x1 := (0 : Int32)) (x2 := (1 : Int32)) (rest := [.int (if ((f_Sta_read (5 : Int32) sp) - (1 : Int32)) = (0 : Int32) then (1 : Int32) else (0 : Int32))]) 51 ?_ (fun k28 k29 => ?_)
    rotate_left
    · refine lv_if_eq (tgt := 50) hx hb d_Bra_taken_43 (by decide) (fun (h27 : (p0 &&& (2 : Int32)) = (0 : Int32)) => ?_) (fun (h27 : ¬ (p0 &&& (2 : Int32)) = (0 : Int32)) => ?_)
      · refine lv_iconst (v := (0 : Int32)) hx hb d_Bra_taken_50 (by decide) ?_
        exact k28 h27
      · refine lv_iconst (v := (1 : Int32)) hx hb d_Bra_taken_46 (by decide) ?_
        refine lv_goto (tgt := 51) hx hb d_Bra_taken_47 (by decide) ?_
        exact k29 h27
    refine k_join2 (c0 := (if ((f_Sta_read (5 : Int32) sp) - (1 : Int32)) = (0 : Int32) then (1 : Int32) else (0 : Int32)) = (if (p0 &&& (2 : Int32)) = (0 : Int32) then (0 : Int32) else (1 : Int32))) (x1 := (1 : Int32)) (x2 := (0 : Int32)) (rest := []) 59 ?_ (fun k33 k34 => ?_)
    rotate_left
    · refine lv_icmp_ne (tgt := 58) hx hb d_Bra_taken_51 (by decide) (fun (h32 : ¬ (if ((f_Sta_read (5 : Int32) sp) - (1 : Int32)) = (0 : Int32) then (1 : Int32) else (0 : Int32)) = (if (p0 &&& (2 : Int32)) = (0 : Int32) then (0 : Int32) else (1 : Int32))) => ?_) (fun (h32 : (if ((f_Sta_read (5 : Int32) sp) - (1 : Int32)) = (0 : Int32) then (1 : Int32) else (0 : Int32)) = (if (p0 &&& (2 : Int32)) = (0 : Int32) then (0 : Int32) else (1 : Int32))) => ?_)
      · refine lv_iconst (v := (0 : Int32)) hx hb d_Bra_taken_58 (by decide) ?_
        exact k34 h32
      · refine lv_iconst (v := (1 : Int32)) hx hb d_Bra_taken_54 (by decide) ?_
        refine lv_goto (tgt := 59) hx hb d_Bra_taken_55 (by decide) ?_
        exact k33 h32
    refine lv_istore_n (lv' := [(3, .int (if (if ((f_Sta_read (5 : Int32) sp) - (1 : Int32)) = (0 : Int32) then (1 : Int32) else (0 : Int32)) = (if (p0 &&& (2 : Int32)) = (0 : Int32) then (0 : Int32) else (1 : Int32)) then (1 : Int32) else (0 : Int32))), (4, .int ((f_Sta_read (5 : Int32) sp) - (1 : Int32))), (0, .ref aB), (1, .int p0), (2, .int p1)]) hx hb d_Bra_taken_59 rfl hl (by decide) rfl (fun ls hl => ?_)
    refine lv_iload_n hx hb d_Bra_taken_60 rfl (lv_at hl 3 rfl) ?_
    refine lv_bipush (v := (16 : Int32)) hx hb d_Bra_taken_61 (by decide) ?_
    refine lv_iand hx hb d_Bra_taken_63 ?_
    refine lv_if_ne (tgt := 83) hx hb d_Bra_taken_64 (by decide) (fun (h40 : ¬ (p0 &&& (16 : Int32)) = (0 : Int32)) => ?_) (fun (h40 : (p0 &&& (16 : Int32)) = (0 : Int32)) => ?_)
    · refine lv_iconst (v := (1 : Int32)) hx hb d_Bra_taken_83 (by decide) ?_
      refine lv_goto (tgt := 88) hx hb d_Bra_taken_84 (by decide) ?_
      refine lv_istore (lv' := [(4, .int (1 : Int32)), (3, .int (if (if ((f_Sta_read (5 : Int32) sp) - (1 : Int32)) = (0 : Int32) then (1 : Int32) else (0 : Int32)) = (if (p0 &&& (2 : Int32)) = (0 : Int32) then (0 : Int32) else (1 : Int32)) then (1 : Int32) else (0 : Int32))), (0, .ref aB), (1, .int p0), (2, .int p1)]) hx hb d_Bra_taken_88 hl (by decide) rfl (fun ls hl => ?_)
      refine lv_iload_n hx hb d_Bra_taken_90 rfl (lv_at hl 1 rfl) ?_
      refine lv_if_eq (tgt := 103) hx hb d_Bra_taken_91 (by decide) (fun (h44 : (if (if ((f_Sta_read (5 : Int32) sp) - (1 : Int32)) = (0 : Int32) then (1 : Int32) else (0 : Int32)) = (if (p0 &&& (2 : Int32)) = (0 : Int32) then (0 : Int32) else (1 : Int32)) then (1 : Int32) else (0 : Int32)) = (0 : Int32)) => ?_) (fun (h44 : ¬ (if (if ((f_Sta_read (5 : Int32) sp) - (1 : Int32)) = (0 : Int32) then (1 : Int32) else (0 : Int32)) = (if (p0 &&& (2 : Int32)) = (0 : Int32) then (0 : Int32) else (1 : Int32)) then (1 : Int32) else (0 : Int32)) = (0 : Int32)) => ?_)
      · refine lv_iconst (v := (0 : Int32)) hx hb d_Bra_taken_103 (by decide) ?_
        have ef : f_Bra_taken p0 p1 sp = ((0 : Int32), (f_Sta_keep (5 : Int32) ((f_Sta_read (5 : Int32) sp) - (1 : Int32)) sp)) := by unfold f_Bra_taken; rw [if_pos h4, if_neg h40, if_pos h44]
        exact k_zret hx hb hr hlocks hK hP hD hS [0, 1, 2, 3] rfl (by rw [ef] <;> rfl) (by rw [ef] <;> rfl) nb0 d_Bra_taken_104
      · refine lv_iload hx hb d_Bra_taken_94 (lv_at hl 0 rfl) ?_
        refine lv_if_eq (tgt := 103) hx hb d_Bra_taken_96 (by decide) (fun h45 => ?_) (fun h45 => ?_)
        · exact absurd h45 (by decide)
        refine lv_iconst (v := (1 : Int32)) hx hb d_Bra_taken_99 (by decide) ?_
        refine lv_goto (tgt := 104) hx hb d_Bra_taken_100 (by decide) ?_
        have ef : f_Bra_taken p0 p1 sp = ((1 : Int32), (f_Sta_keep (5 : Int32) ((f_Sta_read (5 : Int32) sp) - (1 : Int32)) sp)) := by unfold f_Bra_taken; rw [if_pos h4, if_neg h40, if_neg h44]
        exact k_zret hx hb hr hlocks hK hP hD hS [0, 1, 2, 3] rfl (by rw [ef] <;> rfl) (by rw [ef] <;> rfl) nb1 d_Bra_taken_104
    · refine lv_aload_n hx hb d_Bra_taken_67 rfl (lv_at hl 2 rfl) ?_
      refine va_get (D := D) (ci := 2) (v := .ref aS) (C := "MappedProcessor$Branches") (T := T_Bra) (N := 1) hx hb hB iw_Bra hown hK hP 3 rfl rfl 0 (by decide) (hB _ mw_179) (fun _ h9 => h9) rfl d_Bra_taken_68 ?_
      refine lv_iload_n hx hb d_Bra_taken_71 rfl (lv_at hl 4 rfl) ?_
      refine k_cVi (As := [.int p1]) (rest := []) (wr := [(aB, .inr (2, [.ref aS]))]) (wj := [(aS, .inr (9, [.ref aG, .ref aX, .int nx, .int lt, .int sm, .int ex])), (aG, .inl (cG, 32, .inl g)), (aX, .inl (cX, 64, .inl (f_Sta_keep (5 : Int32) ((f_Sta_read (5 : Int32) sp) - (1 : Int32)) sp))), (aB, .inr (2, [.ref aS]))]) ⟨hx, hb, hml, hown, hB⟩ (c_Sta_conditionBit l D aS aG aX cG cX g (f_Sta_keep (5 : Int32) ((f_Sta_read (5 : Int32) sp) - (1 : Int32)) sp) nx lt sm ex p1) yl_Sta_conditionBit mw_434 hK hN hP hD hS hA [0, 1] [0, 1, 2] [3] [1, 2, 3, 0] rfl rfl rfl rfl (by decide +kernel) 0 rfl rfl rfl rfl hl.1 rfl (Nat.le_of_ble_eq_true rfl) ⟨Nat.le_of_ble_eq_true rfl, Nat.le_of_ble_eq_true rfl⟩ d_Bra_taken_72 ⟨Nat.le_of_ble_eq_true rfl, Nat.le_of_ble_eq_true rfl⟩ (fun H locs hP hD hS => ?_)
      refine lv_iload_n hx hb d_Bra_taken_75 rfl (lv_at hl 3 rfl) ?_
      refine lv_iconst (v := (3 : Int32)) hx hb d_Bra_taken_76 (by decide) ?_
      refine lv_ishr hx hb d_Bra_taken_77 ?_
      refine lv_iconst (v := (1 : Int32)) hx hb d_Bra_taken_78 (by decide) ?_
      refine lv_iand hx hb d_Bra_taken_79 ?_
      refine k_join2 (c0 := (f_Sta_conditionBit p1 (f_Sta_keep (5 : Int32) ((f_Sta_read (5 : Int32) sp) - (1 : Int32)) sp)) = ((shr p0 (3 : Int32)) &&& (1 : Int32))) (x1 := (1 : Int32)) (x2 := (0 : Int32)) (rest := []) 88 ?_ (fun k47 k48 => ?_)
      rotate_left
      · refine lv_icmp_ne (tgt := 87) hx hb d_Bra_taken_80 (by decide) (fun (h46 : ¬ (f_Sta_conditionBit p1 (f_Sta_keep (5 : Int32) ((f_Sta_read (5 : Int32) sp) - (1 : Int32)) sp)) = ((shr p0 (3 : Int32)) &&& (1 : Int32))) => ?_) (fun (h46 : (f_Sta_conditionBit p1 (f_Sta_keep (5 : Int32) ((f_Sta_read (5 : Int32) sp) - (1 : Int32)) sp)) = ((shr p0 (3 : Int32)) &&& (1 : Int32))) => ?_)
        · refine lv_iconst (v := (0 : Int32)) hx hb d_Bra_taken_87 (by decide) ?_
          exact k48 h46
        · refine lv_iconst (v := (1 : Int32)) hx hb d_Bra_taken_83 (by decide) ?_
          refine lv_goto (tgt := 88) hx hb d_Bra_taken_84 (by decide) ?_
          exact k47 h46
      refine lv_istore (lv' := [(4, .int (if (f_Sta_conditionBit p1 (f_Sta_keep (5 : Int32) ((f_Sta_read (5 : Int32) sp) - (1 : Int32)) sp)) = ((shr p0 (3 : Int32)) &&& (1 : Int32)) then (1 : Int32) else (0 : Int32))), (3, .int (if (if ((f_Sta_read (5 : Int32) sp) - (1 : Int32)) = (0 : Int32) then (1 : Int32) else (0 : Int32)) = (if (p0 &&& (2 : Int32)) = (0 : Int32) then (0 : Int32) else (1 : Int32)) then (1 : Int32) else (0 : Int32))), (0, .ref aB), (1, .int p0), (2, .int p1)]) hx hb d_Bra_taken_88 hl (by decide) rfl (fun ls hl => ?_)
      refine lv_iload_n hx hb d_Bra_taken_90 rfl (lv_at hl 1 rfl) ?_
      refine k_join2 (c0 := (if (if ((f_Sta_read (5 : Int32) sp) - (1 : Int32)) = (0 : Int32) then (1 : Int32) else (0 : Int32)) = (if (p0 &&& (2 : Int32)) = (0 : Int32) then (0 : Int32) else (1 : Int32)) then (1 : Int32) else (0 : Int32)) = (0 : Int32)) (x1 := (0 : Int32)) (x2 := (if (if (f_Sta_conditionBit p1 (f_Sta_keep (5 : Int32) ((f_Sta_read (5 : Int32) sp) - (1 : Int32)) sp)) = ((shr p0 (3 : Int32)) &&& (1 : Int32)) then (1 : Int32) else (0 : Int32)) = (0 : Int32) then (0 : Int32) else (1 : Int32))) (rest := []) 104 ?_ (fun k52 k53 => ?_)
      rotate_left
      · refine lv_if_eq (tgt := 103) hx hb d_Bra_taken_91 (by decide) (fun (h51 : (if (if ((f_Sta_read (5 : Int32) sp) - (1 : Int32)) = (0 : Int32) then (1 : Int32) else (0 : Int32)) = (if (p0 &&& (2 : Int32)) = (0 : Int32) then (0 : Int32) else (1 : Int32)) then (1 : Int32) else (0 : Int32)) = (0 : Int32)) => ?_) (fun (h51 : ¬ (if (if ((f_Sta_read (5 : Int32) sp) - (1 : Int32)) = (0 : Int32) then (1 : Int32) else (0 : Int32)) = (if (p0 &&& (2 : Int32)) = (0 : Int32) then (0 : Int32) else (1 : Int32)) then (1 : Int32) else (0 : Int32)) = (0 : Int32)) => ?_)
        · refine lv_iconst (v := (0 : Int32)) hx hb d_Bra_taken_103 (by decide) ?_
          exact k52 h51
        · refine lv_iload hx hb d_Bra_taken_94 (lv_at hl 0 rfl) ?_
          refine k_join2 (c0 := (if (f_Sta_conditionBit p1 (f_Sta_keep (5 : Int32) ((f_Sta_read (5 : Int32) sp) - (1 : Int32)) sp)) = ((shr p0 (3 : Int32)) &&& (1 : Int32)) then (1 : Int32) else (0 : Int32)) = (0 : Int32)) (x1 := (0 : Int32)) (x2 := (1 : Int32)) (rest := []) 104 ?_ (fun k55 k56 => ?_)
          rotate_left
          · refine lv_if_eq (tgt := 103) hx hb d_Bra_taken_96 (by decide) (fun (h54 : (if (f_Sta_conditionBit p1 (f_Sta_keep (5 : Int32) ((f_Sta_read (5 : Int32) sp) - (1 : Int32)) sp)) = ((shr p0 (3 : Int32)) &&& (1 : Int32)) then (1 : Int32) else (0 : Int32)) = (0 : Int32)) => ?_) (fun (h54 : ¬ (if (f_Sta_conditionBit p1 (f_Sta_keep (5 : Int32) ((f_Sta_read (5 : Int32) sp) - (1 : Int32)) sp)) = ((shr p0 (3 : Int32)) &&& (1 : Int32)) then (1 : Int32) else (0 : Int32)) = (0 : Int32)) => ?_)
            · refine lv_iconst (v := (0 : Int32)) hx hb d_Bra_taken_103 (by decide) ?_
              exact k55 h54
            · refine lv_iconst (v := (1 : Int32)) hx hb d_Bra_taken_99 (by decide) ?_
              refine lv_goto (tgt := 104) hx hb d_Bra_taken_100 (by decide) ?_
              exact k56 h54
          exact k53 h51
      have ef : f_Bra_taken p0 p1 sp = ((if (if (if ((f_Sta_read (5 : Int32) sp) - (1 : Int32)) = (0 : Int32) then (1 : Int32) else (0 : Int32)) = (if (p0 &&& (2 : Int32)) = (0 : Int32) then (0 : Int32) else (1 : Int32)) then (1 : Int32) else (0 : Int32)) = (0 : Int32) then (0 : Int32) else (if (if (f_Sta_conditionBit p1 (f_Sta_keep (5 : Int32) ((f_Sta_read (5 : Int32) sp) - (1 : Int32)) sp)) = ((shr p0 (3 : Int32)) &&& (1 : Int32)) then (1 : Int32) else (0 : Int32)) = (0 : Int32) then (0 : Int32) else (1 : Int32))), (f_Sta_keep (5 : Int32) ((f_Sta_read (5 : Int32) sp) - (1 : Int32)) sp)) := by unfold f_Bra_taken; rw [if_pos h4, if_pos h40]
      exact k_zret hx hb hr hlocks hK hP hD hS [0, 1, 2, 3] rfl (by rw [ef] <;> rfl) (by rw [ef] <;> rfl) (nb_ite nb0 (nb_ite nb0 nb1)) d_Bra_taken_104
/-! MappedProcessor$Branches.origin(LMappedProcessor$Instruction;)I -/
theorem d_Bra_origin_0 : decode b_Bra_origin 0 = .ok (.aload_n 1, 1) := by decide +kernel
theorem d_Bra_origin_1 : decode b_Bra_origin 1 = .ok (.iconst 2, 1) := by decide +kernel
theorem d_Bra_origin_2 : decode b_Bra_origin 2 = .ok (.invokevirtual 70, 3) := by decide +kernel
theorem d_Bra_origin_5 : decode b_Bra_origin 5 = .ok (.ifCond .eq 7, 3) := by decide +kernel
theorem d_Bra_origin_8 : decode b_Bra_origin 8 = .ok (.iconst 0, 1) := by decide +kernel
theorem d_Bra_origin_9 : decode b_Bra_origin 9 = .ok (.goto 11, 3) := by decide +kernel
theorem d_Bra_origin_12 : decode b_Bra_origin 12 = .ok (.aload_n 0, 1) := by decide +kernel
theorem d_Bra_origin_13 : decode b_Bra_origin 13 = .ok (.getfield 9, 3) := by decide +kernel
theorem d_Bra_origin_16 : decode b_Bra_origin 16 = .ok (.iconst 0, 1) := by decide +kernel
theorem d_Bra_origin_17 : decode b_Bra_origin 17 = .ok (.invokevirtual 51, 3) := by decide +kernel
theorem d_Bra_origin_20 : decode b_Bra_origin 20 = .ok (.ireturn, 1) := by decide +kernel
def f_Bra_origin (sp : Nat → Int32) (iw : Int32) : Int32 :=
  if (f_Ins_has (2 : Int32) iw) = (0 : Int32) then
    (f_Sta_read (0 : Int32) sp)
  else
    (0 : Int32)
set_option maxHeartbeats 4000000 in
set_option maxRecDepth 100000 in
theorem c_Bra_origin (l : Launch) (D : va_G) (aS aG aX aI aB : Nat) (cG cX : ClassId) (g : Nat → Int32) (sp : Nat → Int32) (nx : Int32) (lt : Int32) (sm : Int32) (ex : Int32) (iw : Int32) (io : Int32) (id : Int32) (ia : Int32) (ib : Int32) (ii : Int32) (is : Int32) (iu : Int32) (_q0 : Nat) : kMi l y_Bra_origin b_Bra_origin 2 (some .int) 1 21 D kCl [(cG, .int), (cX, .int)] [.ref aB, .ref aI] [(aS, .inr (9, [.ref aG, .ref aX, .int nx, .int lt, .int sm, .int ex])), (aG, .inl (cG, 32, .inl g)), (aX, .inl (cX, 64, .inl sp)), (aI, .inr (5, [.int iw, .int io, .int id, .int ia, .int ib, .int ii, .int is, .int iu])), (aB, .inr (2, [.ref aS]))] (f_Bra_origin sp iw) [(aS, .inr (9, [.ref aG, .ref aX, .int nx, .int lt, .int sm, .int ex])), (aG, .inl (cG, 32, .inl g)), (aX, .inl (cX, 64, .inl sp)), (aI, .inr (5, [.int iw, .int io, .int id, .int ia, .int ib, .int ii, .int is, .int iu])), (aB, .inr (2, [.ref aS]))] := by
  refine k_entry (Qc := fun A => kQi D kCl [(cG, .int), (cX, .int)] (f_Bra_origin sp iw) [(aS, .inr (9, [.ref aG, .ref aX, .int nx, .int lt, .int sm, .int ex])), (aG, .inl (cG, 32, .inl g)), (aX, .inl (cX, 64, .inl sp)), (aI, .inr (5, [.int iw, .int io, .int id, .int ia, .int ib, .int ii, .int is, .int iu])), (aB, .inr (2, [.ref aS]))] A) (lv := [(0, .ref aB), (1, .ref aI)]) (by decide) (Nat.le_of_ble_eq_true rfl) rfl ?_
  intro p e s m below meth c A ls hx hb hr hml hB hown hlocks hin hA hK hN hP hD hS hl
  have hown : s.vm.findClass "MappedProcessor$Branches" = some m.cls := hown
  refine lv_aload_n hx hb d_Bra_origin_0 rfl (lv_at hl 1 rfl) ?_
  refine lv_iconst (v := (2 : Int32)) hx hb d_Bra_origin_1 (by decide) ?_
  refine k_cVi (As := [.int (2 : Int32)]) (rest := []) (wr := [(aS, .inr (9, [.ref aG, .ref aX, .int nx, .int lt, .int sm, .int ex])), (aG, .inl (cG, 32, .inl g)), (aX, .inl (cX, 64, .inl sp)), (aB, .inr (2, [.ref aS]))]) (wj := [(aS, .inr (9, [.ref aG, .ref aX, .int nx, .int lt, .int sm, .int ex])), (aG, .inl (cG, 32, .inl g)), (aX, .inl (cX, 64, .inl sp)), (aI, .inr (5, [.int iw, .int io, .int id, .int ia, .int ib, .int ii, .int is, .int iu])), (aB, .inr (2, [.ref aS]))]) ⟨hx, hb, hml, hown, hB⟩ (c_Ins_has l D aI iw io id ia ib ii is iu (2 : Int32)) yl_Ins_has mw_442 hK hN hP hD hS hA [] [3] [0, 1, 2, 4] [0, 1, 2, 4, 3] rfl rfl rfl rfl (by decide +kernel) 0 rfl rfl rfl rfl hl.1 rfl (Nat.le_of_ble_eq_true rfl) ⟨Nat.le_of_ble_eq_true rfl, Nat.le_of_ble_eq_true rfl⟩ d_Bra_origin_2 ⟨Nat.le_of_ble_eq_true rfl, Nat.le_of_ble_eq_true rfl⟩ (fun H locs hP hD hS => ?_)
  refine lv_if_eq (tgt := 12) hx hb d_Bra_origin_5 (by decide) (fun (h4 : (f_Ins_has (2 : Int32) iw) = (0 : Int32)) => ?_) (fun (h4 : ¬ (f_Ins_has (2 : Int32) iw) = (0 : Int32)) => ?_)
  · refine lv_aload_n hx hb d_Bra_origin_12 rfl (lv_at hl 0 rfl) ?_
    refine va_get (D := D) (ci := 2) (v := .ref aS) (C := "MappedProcessor$Branches") (T := T_Bra) (N := 1) hx hb hB iw_Bra hown hK hP 4 rfl rfl 0 (by decide) (hB _ mw_179) (fun _ h9 => h9) rfl d_Bra_origin_13 ?_
    refine lv_iconst (v := (0 : Int32)) hx hb d_Bra_origin_16 (by decide) ?_
    refine k_cVi (As := [.int (0 : Int32)]) (rest := []) (wr := [(aI, .inr (5, [.int iw, .int io, .int id, .int ia, .int ib, .int ii, .int is, .int iu])), (aB, .inr (2, [.ref aS]))]) (wj := [(aS, .inr (9, [.ref aG, .ref aX, .int nx, .int lt, .int sm, .int ex])), (aG, .inl (cG, 32, .inl g)), (aX, .inl (cX, 64, .inl sp)), (aI, .inr (5, [.int iw, .int io, .int id, .int ia, .int ib, .int ii, .int is, .int iu])), (aB, .inr (2, [.ref aS]))]) ⟨hx, hb, hml, hown, hB⟩ (c_Sta_read l D aS aG aX cG cX g sp nx lt sm ex (0 : Int32)) yl_Sta_read mw_432 hK hN hP hD hS hA [0, 1] [0, 1, 2] [3, 4] [2, 3, 4, 0, 1] rfl rfl rfl rfl (by decide +kernel) 0 rfl rfl rfl rfl hl.1 rfl (Nat.le_of_ble_eq_true rfl) ⟨Nat.le_of_ble_eq_true rfl, Nat.le_of_ble_eq_true rfl⟩ d_Bra_origin_17 ⟨Nat.le_of_ble_eq_true rfl, Nat.le_of_ble_eq_true rfl⟩ (fun H locs hP hD hS => ?_)
    have ef : f_Bra_origin sp iw = (f_Sta_read (0 : Int32) sp) := by unfold f_Bra_origin; rw [if_pos h4]
    exact k_iret hx hb hr hlocks hK hP hD hS [0, 1, 2, 3, 4] rfl rfl (by rw [ef] <;> rfl) d_Bra_origin_20
  · refine lv_iconst (v := (0 : Int32)) hx hb d_Bra_origin_8 (by decide) ?_
    refine lv_goto (tgt := 20) hx hb d_Bra_origin_9 (by decide) ?_
    have ef : f_Bra_origin sp iw = (0 : Int32) := by unfold f_Bra_origin; rw [if_neg h4]
    exact k_iret hx hb hr hlocks hK hP hD hS [0, 1, 2, 3, 4] rfl rfl (by rw [ef] <;> rfl) d_Bra_origin_20
/-! MappedProcessor$Branches.branch(LMappedProcessor$Instruction;ZI)V -/
theorem d_Bra_branch_0 : decode b_Bra_branch 0 = .ok (.aload_n 1, 1) := by decide +kernel
theorem d_Bra_branch_1 : decode b_Bra_branch 1 = .ok (.iconst 1, 1) := by decide +kernel
theorem d_Bra_branch_2 : decode b_Bra_branch 2 = .ok (.invokevirtual 70, 3) := by decide +kernel
theorem d_Bra_branch_5 : decode b_Bra_branch 5 = .ok (.ifCond .eq 21, 3) := by decide +kernel
theorem d_Bra_branch_8 : decode b_Bra_branch 8 = .ok (.aload_n 0, 1) := by decide +kernel
theorem d_Bra_branch_9 : decode b_Bra_branch 9 = .ok (.getfield 9, 3) := by decide +kernel
theorem d_Bra_branch_12 : decode b_Bra_branch 12 = .ok (.iconst 4, 1) := by decide +kernel
theorem d_Bra_branch_13 : decode b_Bra_branch 13 = .ok (.aload_n 0, 1) := by decide +kernel
theorem d_Bra_branch_14 : decode b_Bra_branch 14 = .ok (.getfield 9, 3) := by decide +kernel
theorem d_Bra_branch_17 : decode b_Bra_branch 17 = .ok (.iconst 0, 1) := by decide +kernel
theorem d_Bra_branch_18 : decode b_Bra_branch 18 = .ok (.invokevirtual 51, 3) := by decide +kernel
theorem d_Bra_branch_21 : decode b_Bra_branch 21 = .ok (.iconst 4, 1) := by decide +kernel
theorem d_Bra_branch_22 : decode b_Bra_branch 22 = .ok (.iadd, 1) := by decide +kernel
theorem d_Bra_branch_23 : decode b_Bra_branch 23 = .ok (.invokevirtual 74, 3) := by decide +kernel
theorem d_Bra_branch_26 : decode b_Bra_branch 26 = .ok (.iload_n 2, 1) := by decide +kernel
theorem d_Bra_branch_27 : decode b_Bra_branch 27 = .ok (.ifCond .eq 11, 3) := by decide +kernel
theorem d_Bra_branch_30 : decode b_Bra_branch 30 = .ok (.aload_n 0, 1) := by decide +kernel
theorem d_Bra_branch_31 : decode b_Bra_branch 31 = .ok (.getfield 9, 3) := by decide +kernel
theorem d_Bra_branch_34 : decode b_Bra_branch 34 = .ok (.iload_n 3, 1) := by decide +kernel
theorem d_Bra_branch_35 : decode b_Bra_branch 35 = .ok (.invokevirtual 77, 3) := by decide +kernel
theorem d_Bra_branch_38 : decode b_Bra_branch 38 = .ok (.return_, 1) := by decide +kernel
def f_Bra_branch (p1 : Int32) (p2 : Int32) (sp : Nat → Int32) (nx : Int32) (iw : Int32) : (Nat → Int32) × Int32 :=
  if (f_Ins_has (1 : Int32) iw) = (0 : Int32) then
    if p1 = (0 : Int32) then
      (sp, nx)
    else
      (sp, (f_Sta_goTo p2))
  else
    if p1 = (0 : Int32) then
      ((f_Sta_keep (4 : Int32) ((f_Sta_read (0 : Int32) sp) + (4 : Int32)) sp), nx)
    else
      ((f_Sta_keep (4 : Int32) ((f_Sta_read (0 : Int32) sp) + (4 : Int32)) sp), (f_Sta_goTo p2))
set_option maxHeartbeats 4000000 in
set_option maxRecDepth 100000 in
theorem c_Bra_branch (l : Launch) (D : va_G) (aS aG aX aI aB : Nat) (cG cX : ClassId) (g : Nat → Int32) (sp : Nat → Int32) (nx : Int32) (lt : Int32) (sm : Int32) (ex : Int32) (iw : Int32) (io : Int32) (id : Int32) (ia : Int32) (ib : Int32) (ii : Int32) (is : Int32) (iu : Int32) (_q0 : Nat) (p1 : Int32) (p2 : Int32) : kMv l y_Bra_branch b_Bra_branch 4 none 1 22 D kCl [(cG, .int), (cX, .int)] [.ref aB, .ref aI, .int p1, .int p2] [(aS, .inr (9, [.ref aG, .ref aX, .int nx, .int lt, .int sm, .int ex])), (aG, .inl (cG, 32, .inl g)), (aX, .inl (cX, 64, .inl sp)), (aI, .inr (5, [.int iw, .int io, .int id, .int ia, .int ib, .int ii, .int is, .int iu])), (aB, .inr (2, [.ref aS]))] [(aS, .inr (9, [.ref aG, .ref aX, .int (f_Bra_branch p1 p2 sp nx iw).2, .int lt, .int sm, .int ex])), (aG, .inl (cG, 32, .inl g)), (aX, .inl (cX, 64, .inl (f_Bra_branch p1 p2 sp nx iw).1)), (aI, .inr (5, [.int iw, .int io, .int id, .int ia, .int ib, .int ii, .int is, .int iu])), (aB, .inr (2, [.ref aS]))] := by
  refine k_entry (Qc := fun A => kQv D kCl [(cG, .int), (cX, .int)] [(aS, .inr (9, [.ref aG, .ref aX, .int (f_Bra_branch p1 p2 sp nx iw).2, .int lt, .int sm, .int ex])), (aG, .inl (cG, 32, .inl g)), (aX, .inl (cX, 64, .inl (f_Bra_branch p1 p2 sp nx iw).1)), (aI, .inr (5, [.int iw, .int io, .int id, .int ia, .int ib, .int ii, .int is, .int iu])), (aB, .inr (2, [.ref aS]))] A) (lv := [(0, .ref aB), (1, .ref aI), (2, .int p1), (3, .int p2)]) (by decide) (Nat.le_of_ble_eq_true rfl) rfl ?_
  intro p e s m below meth c A ls hx hb hr hml hB hown hlocks hin hA hK hN hP hD hS hl
  have hown : s.vm.findClass "MappedProcessor$Branches" = some m.cls := hown
  refine lv_aload_n hx hb d_Bra_branch_0 rfl (lv_at hl 1 rfl) ?_
  refine lv_iconst (v := (1 : Int32)) hx hb d_Bra_branch_1 (by decide) ?_
  refine k_cVi (As := [.int (1 : Int32)]) (rest := []) (wr := [(aS, .inr (9, [.ref aG, .ref aX, .int nx, .int lt, .int sm, .int ex])), (aG, .inl (cG, 32, .inl g)), (aX, .inl (cX, 64, .inl sp)), (aB, .inr (2, [.ref aS]))]) (wj := [(aS, .inr (9, [.ref aG, .ref aX, .int nx, .int lt, .int sm, .int ex])), (aG, .inl (cG, 32, .inl g)), (aX, .inl (cX, 64, .inl sp)), (aI, .inr (5, [.int iw, .int io, .int id, .int ia, .int ib, .int ii, .int is, .int iu])), (aB, .inr (2, [.ref aS]))]) ⟨hx, hb, hml, hown, hB⟩ (c_Ins_has l D aI iw io id ia ib ii is iu (1 : Int32)) yl_Ins_has mw_442 hK hN hP hD hS hA [] [3] [0, 1, 2, 4] [0, 1, 2, 4, 3] rfl rfl rfl rfl (by decide +kernel) 0 rfl rfl rfl rfl hl.1 rfl (Nat.le_of_ble_eq_true rfl) ⟨Nat.le_of_ble_eq_true rfl, Nat.le_of_ble_eq_true rfl⟩ d_Bra_branch_2 ⟨Nat.le_of_ble_eq_true rfl, Nat.le_of_ble_eq_true rfl⟩ (fun H locs hP hD hS => ?_)
  refine lv_if_eq (tgt := 26) hx hb d_Bra_branch_5 (by decide) (fun (h4 : (f_Ins_has (1 : Int32) iw) = (0 : Int32)) => ?_) (fun (h4 : ¬ (f_Ins_has (1 : Int32) iw) = (0 : Int32)) => ?_)
  · refine lv_iload_n hx hb d_Bra_branch_26 rfl (lv_at hl 2 rfl) ?_
    refine lv_if_eq (tgt := 38) hx hb d_Bra_branch_27 (by decide) (fun (h8 : p1 = (0 : Int32)) => ?_) (fun (h8 : ¬ p1 = (0 : Int32)) => ?_)
    · have ef : f_Bra_branch p1 p2 sp nx iw = (sp, nx) := by unfold f_Bra_branch; rw [if_pos h4, if_pos h8]
      exact k_vret hx hb hr hlocks hK hP hD hS [0, 1, 2, 3, 4] rfl (by rw [ef] <;> rfl) d_Bra_branch_38
    · refine lv_aload_n hx hb d_Bra_branch_30 rfl (lv_at hl 0 rfl) ?_
      refine va_get (D := D) (ci := 2) (v := .ref aS) (C := "MappedProcessor$Branches") (T := T_Bra) (N := 1) hx hb hB iw_Bra hown hK hP 4 rfl rfl 0 (by decide) (hB _ mw_179) (fun _ h9 => h9) rfl d_Bra_branch_31 ?_
      refine lv_iload_n hx hb d_Bra_branch_34 rfl (lv_at hl 3 rfl) ?_
      refine k_cVv (As := [.int p2]) (rest := []) (wr := [(aI, .inr (5, [.int iw, .int io, .int id, .int ia, .int ib, .int ii, .int is, .int iu])), (aB, .inr (2, [.ref aS]))]) (wj := [(aS, .inr (9, [.ref aG, .ref aX, .int (f_Sta_goTo p2), .int lt, .int sm, .int ex])), (aG, .inl (cG, 32, .inl g)), (aX, .inl (cX, 64, .inl sp)), (aI, .inr (5, [.int iw, .int io, .int id, .int ia, .int ib, .int ii, .int is, .int iu])), (aB, .inr (2, [.ref aS]))]) ⟨hx, hb, hml, hown, hB⟩ (c_Sta_goTo l D aS aG aX cG cX g sp nx lt sm ex p2) yl_Sta_goTo mw_450 hK hN hP hD hS hA [0, 1] [0, 1, 2] [3, 4] [2, 3, 4, 0, 1] rfl rfl rfl rfl (by decide +kernel) 0 rfl rfl rfl rfl hl.1 rfl (Nat.le_of_ble_eq_true rfl) ⟨Nat.le_of_ble_eq_true rfl, Nat.le_of_ble_eq_true rfl⟩ d_Bra_branch_35 ⟨Nat.le_of_ble_eq_true rfl, Nat.le_of_ble_eq_true rfl⟩ (fun H locs hP hD hS => ?_)
      have ef : f_Bra_branch p1 p2 sp nx iw = (sp, (f_Sta_goTo p2)) := by unfold f_Bra_branch; rw [if_pos h4, if_neg h8]
      exact k_vret hx hb hr hlocks hK hP hD hS [0, 1, 2, 3, 4] rfl (by rw [ef] <;> rfl) d_Bra_branch_38
  · refine lv_aload_n hx hb d_Bra_branch_8 rfl (lv_at hl 0 rfl) ?_
    refine va_get (D := D) (ci := 2) (v := .ref aS) (C := "MappedProcessor$Branches") (T := T_Bra) (N := 1) hx hb hB iw_Bra hown hK hP 4 rfl rfl 0 (by decide) (hB _ mw_179) (fun _ h9 => h9) rfl d_Bra_branch_9 ?_
    refine lv_iconst (v := (4 : Int32)) hx hb d_Bra_branch_12 (by decide) ?_
    refine lv_aload_n hx hb d_Bra_branch_13 rfl (lv_at hl 0 rfl) ?_
    refine va_get (D := D) (ci := 2) (v := .ref aS) (C := "MappedProcessor$Branches") (T := T_Bra) (N := 1) hx hb hB iw_Bra hown hK hP 4 rfl rfl 0 (by decide) (hB _ mw_179) (fun _ h9 => h9) rfl d_Bra_branch_14 ?_
    refine lv_iconst (v := (0 : Int32)) hx hb d_Bra_branch_17 (by decide) ?_
    refine k_cVi (As := [.int (0 : Int32)]) (rest := [.int (4 : Int32), .ref aS]) (wr := [(aI, .inr (5, [.int iw, .int io, .int id, .int ia, .int ib, .int ii, .int is, .int iu])), (aB, .inr (2, [.ref aS]))]) (wj := [(aS, .inr (9, [.ref aG, .ref aX, .int nx, .int lt, .int sm, .int ex])), (aG, .inl (cG, 32, .inl g)), (aX, .inl (cX, 64, .inl sp)), (aI, .inr (5, [.int iw, .int io, .int id, .int ia, .int ib, .int ii, .int is, .int iu])), (aB, .inr (2, [.ref aS]))]) ⟨hx, hb, hml, hown, hB⟩ (c_Sta_read l D aS aG aX cG cX g sp nx lt sm ex (0 : Int32)) yl_Sta_read mw_432 hK hN hP hD hS hA [0, 1] [0, 1, 2] [3, 4] [2, 3, 4, 0, 1] rfl rfl rfl rfl (by decide +kernel) 0 rfl rfl rfl rfl hl.1 rfl (Nat.le_of_ble_eq_true rfl) ⟨Nat.le_of_ble_eq_true rfl, Nat.le_of_ble_eq_true rfl⟩ d_Bra_branch_18 ⟨Nat.le_of_ble_eq_true rfl, Nat.le_of_ble_eq_true rfl⟩ (fun H locs hP hD hS => ?_)
    refine lv_iconst (v := (4 : Int32)) hx hb d_Bra_branch_21 (by decide) ?_
    refine lv_iadd hx hb d_Bra_branch_22 ?_
    refine k_cVv (As := [.int (4 : Int32), .int ((f_Sta_read (0 : Int32) sp) + (4 : Int32))]) (rest := []) (wr := [(aI, .inr (5, [.int iw, .int io, .int id, .int ia, .int ib, .int ii, .int is, .int iu])), (aB, .inr (2, [.ref aS]))]) (wj := [(aS, .inr (9, [.ref aG, .ref aX, .int nx, .int lt, .int sm, .int ex])), (aG, .inl (cG, 32, .inl g)), (aX, .inl (cX, 64, .inl (f_Sta_keep (4 : Int32) ((f_Sta_read (0 : Int32) sp) + (4 : Int32)) sp))), (aI, .inr (5, [.int iw, .int io, .int id, .int ia, .int ib, .int ii, .int is, .int iu])), (aB, .inr (2, [.ref aS]))]) ⟨hx, hb, hml, hown, hB⟩ (c_Sta_keep l D aS aG aX cG cX g sp nx lt sm ex (4 : Int32) ((f_Sta_read (0 : Int32) sp) + (4 : Int32))) yl_Sta_keep mw_433 hK hN hP hD hS hA [0, 1] [0, 1, 2] [3, 4] [2, 3, 4, 0, 1] rfl rfl rfl rfl (by decide +kernel) 0 rfl rfl rfl rfl hl.1 rfl (Nat.le_of_ble_eq_true rfl) ⟨Nat.le_of_ble_eq_true rfl, Nat.le_of_ble_eq_true rfl⟩ d_Bra_branch_23 ⟨Nat.le_of_ble_eq_true rfl, Nat.le_of_ble_eq_true rfl⟩ (fun H locs hP hD hS => ?_)
    refine lv_iload_n hx hb d_Bra_branch_26 rfl (lv_at hl 2 rfl) ?_
    refine lv_if_eq (tgt := 38) hx hb d_Bra_branch_27 (by decide) (fun (h12 : p1 = (0 : Int32)) => ?_) (fun (h12 : ¬ p1 = (0 : Int32)) => ?_)
    · have ef : f_Bra_branch p1 p2 sp nx iw = ((f_Sta_keep (4 : Int32) ((f_Sta_read (0 : Int32) sp) + (4 : Int32)) sp), nx) := by unfold f_Bra_branch; rw [if_neg h4, if_pos h12]
      exact k_vret hx hb hr hlocks hK hP hD hS [0, 1, 2, 3, 4] rfl (by rw [ef] <;> rfl) d_Bra_branch_38
    · refine lv_aload_n hx hb d_Bra_branch_30 rfl (lv_at hl 0 rfl) ?_
      refine va_get (D := D) (ci := 2) (v := .ref aS) (C := "MappedProcessor$Branches") (T := T_Bra) (N := 1) hx hb hB iw_Bra hown hK hP 4 rfl rfl 0 (by decide) (hB _ mw_179) (fun _ h9 => h9) rfl d_Bra_branch_31 ?_
      refine lv_iload_n hx hb d_Bra_branch_34 rfl (lv_at hl 3 rfl) ?_
      refine k_cVv (As := [.int p2]) (rest := []) (wr := [(aI, .inr (5, [.int iw, .int io, .int id, .int ia, .int ib, .int ii, .int is, .int iu])), (aB, .inr (2, [.ref aS]))]) (wj := [(aS, .inr (9, [.ref aG, .ref aX, .int (f_Sta_goTo p2), .int lt, .int sm, .int ex])), (aG, .inl (cG, 32, .inl g)), (aX, .inl (cX, 64, .inl (f_Sta_keep (4 : Int32) ((f_Sta_read (0 : Int32) sp) + (4 : Int32)) sp))), (aI, .inr (5, [.int iw, .int io, .int id, .int ia, .int ib, .int ii, .int is, .int iu])), (aB, .inr (2, [.ref aS]))]) ⟨hx, hb, hml, hown, hB⟩ (c_Sta_goTo l D aS aG aX cG cX g (f_Sta_keep (4 : Int32) ((f_Sta_read (0 : Int32) sp) + (4 : Int32)) sp) nx lt sm ex p2) yl_Sta_goTo mw_450 hK hN hP hD hS hA [0, 1] [0, 1, 2] [3, 4] [2, 3, 4, 0, 1] rfl rfl rfl rfl (by decide +kernel) 0 rfl rfl rfl rfl hl.1 rfl (Nat.le_of_ble_eq_true rfl) ⟨Nat.le_of_ble_eq_true rfl, Nat.le_of_ble_eq_true rfl⟩ d_Bra_branch_35 ⟨Nat.le_of_ble_eq_true rfl, Nat.le_of_ble_eq_true rfl⟩ (fun H locs hP hD hS => ?_)
      have ef : f_Bra_branch p1 p2 sp nx iw = ((f_Sta_keep (4 : Int32) ((f_Sta_read (0 : Int32) sp) + (4 : Int32)) sp), (f_Sta_goTo p2)) := by unfold f_Bra_branch; rw [if_neg h4, if_neg h12]
      exact k_vret hx hb hr hlocks hK hP hD hS [0, 1, 2, 3, 4] rfl (by rw [ef] <;> rfl) d_Bra_branch_38
/-! MappedProcessor$Branches.callSystem()V -/
theorem d_Bra_callSystem_0 : decode b_Bra_callSystem 0 = .ok (.aload_n 0, 1) := by decide +kernel
theorem d_Bra_callSystem_1 : decode b_Bra_callSystem 1 = .ok (.getfield 9, 3) := by decide +kernel
theorem d_Bra_callSystem_4 : decode b_Bra_callSystem 4 = .ok (.sipush 3072, 3) := by decide +kernel
theorem d_Bra_callSystem_7 : decode b_Bra_callSystem 7 = .ok (.iconst 0, 1) := by decide +kernel
theorem d_Bra_callSystem_8 : decode b_Bra_callSystem 8 = .ok (.invokevirtual 81, 3) := by decide +kernel
theorem d_Bra_callSystem_11 : decode b_Bra_callSystem 11 = .ok (.aload_n 0, 1) := by decide +kernel
theorem d_Bra_callSystem_12 : decode b_Bra_callSystem 12 = .ok (.getfield 9, 3) := by decide +kernel
theorem d_Bra_callSystem_15 : decode b_Bra_callSystem 15 = .ok (.bipush 6, 2) := by decide +kernel
theorem d_Bra_callSystem_17 : decode b_Bra_callSystem 17 = .ok (.aload_n 0, 1) := by decide +kernel
theorem d_Bra_callSystem_18 : decode b_Bra_callSystem 18 = .ok (.getfield 9, 3) := by decide +kernel
theorem d_Bra_callSystem_21 : decode b_Bra_callSystem 21 = .ok (.iconst 0, 1) := by decide +kernel
theorem d_Bra_callSystem_22 : decode b_Bra_callSystem 22 = .ok (.invokevirtual 51, 3) := by decide +kernel
theorem d_Bra_callSystem_25 : decode b_Bra_callSystem 25 = .ok (.iconst 4, 1) := by decide +kernel
theorem d_Bra_callSystem_26 : decode b_Bra_callSystem 26 = .ok (.iadd, 1) := by decide +kernel
theorem d_Bra_callSystem_27 : decode b_Bra_callSystem 27 = .ok (.invokevirtual 74, 3) := by decide +kernel
theorem d_Bra_callSystem_30 : decode b_Bra_callSystem 30 = .ok (.return_, 1) := by decide +kernel
def f_Bra_callSystem (sp : Nat → Int32) (ex : Int32) : (Nat → Int32) × Int32 × Int32 × Int32 :=
  let t1 := (f_Sta_raise (3072 : Int32) (0 : Int32) sp ex)
  ((f_Sta_keep (6 : Int32) ((f_Sta_read (0 : Int32) t1.1) + (4 : Int32)) t1.1), t1.2.1, t1.2.2.1, t1.2.2.2)
set_option maxHeartbeats 4000000 in
set_option maxRecDepth 100000 in
theorem c_Bra_callSystem (l : Launch) (D : va_G) (aS aG aX aB : Nat) (cG cX : ClassId) (g : Nat → Int32) (sp : Nat → Int32) (nx : Int32) (lt : Int32) (sm : Int32) (ex : Int32) : kMv l y_Bra_callSystem b_Bra_callSystem 1 none 1 22 D kCl [(cG, .int), (cX, .int)] [.ref aB] [(aS, .inr (9, [.ref aG, .ref aX, .int nx, .int lt, .int sm, .int ex])), (aG, .inl (cG, 32, .inl g)), (aX, .inl (cX, 64, .inl sp)), (aB, .inr (2, [.ref aS]))] [(aS, .inr (9, [.ref aG, .ref aX, .int (f_Bra_callSystem sp ex).2.1, .int (f_Bra_callSystem sp ex).2.2.1, .int sm, .int (f_Bra_callSystem sp ex).2.2.2])), (aG, .inl (cG, 32, .inl g)), (aX, .inl (cX, 64, .inl (f_Bra_callSystem sp ex).1)), (aB, .inr (2, [.ref aS]))] := by
  refine k_entry (Qc := fun A => kQv D kCl [(cG, .int), (cX, .int)] [(aS, .inr (9, [.ref aG, .ref aX, .int (f_Bra_callSystem sp ex).2.1, .int (f_Bra_callSystem sp ex).2.2.1, .int sm, .int (f_Bra_callSystem sp ex).2.2.2])), (aG, .inl (cG, 32, .inl g)), (aX, .inl (cX, 64, .inl (f_Bra_callSystem sp ex).1)), (aB, .inr (2, [.ref aS]))] A) (lv := [(0, .ref aB)]) (by decide) (Nat.le_of_ble_eq_true rfl) rfl ?_
  intro p e s m below meth c A ls hx hb hr hml hB hown hlocks hin hA hK hN hP hD hS hl
  have hown : s.vm.findClass "MappedProcessor$Branches" = some m.cls := hown
  refine lv_aload_n hx hb d_Bra_callSystem_0 rfl (lv_at hl 0 rfl) ?_
  refine va_get (D := D) (ci := 2) (v := .ref aS) (C := "MappedProcessor$Branches") (T := T_Bra) (N := 1) hx hb hB iw_Bra hown hK hP 3 rfl rfl 0 (by decide) (hB _ mw_179) (fun _ h9 => h9) rfl d_Bra_callSystem_1 ?_
  refine lv_sipush (v := (3072 : Int32)) hx hb d_Bra_callSystem_4 (by decide) ?_
  refine lv_iconst (v := (0 : Int32)) hx hb d_Bra_callSystem_7 (by decide) ?_
  let t1 := (f_Sta_raise (3072 : Int32) (0 : Int32) sp ex)
  refine k_cVv (As := [.int (3072 : Int32), .int (0 : Int32)]) (rest := []) (wr := [(aB, .inr (2, [.ref aS]))]) (wj := [(aS, .inr (9, [.ref aG, .ref aX, .int t1.2.1, .int t1.2.2.1, .int sm, .int t1.2.2.2])), (aG, .inl (cG, 32, .inl g)), (aX, .inl (cX, 64, .inl t1.1)), (aB, .inr (2, [.ref aS]))]) ⟨hx, hb, hml, hown, hB⟩ (c_Sta_raise l D aS aG aX cG cX g sp nx lt sm ex (3072 : Int32) (0 : Int32)) yl_Sta_raise mw_458 hK hN hP hD hS hA [0, 1] [0, 1, 2] [3] [1, 2, 3, 0] rfl rfl rfl rfl (by decide +kernel) 0 rfl rfl rfl rfl hl.1 rfl (Nat.le_of_ble_eq_true rfl) ⟨Nat.le_of_ble_eq_true rfl, Nat.le_of_ble_eq_true rfl⟩ d_Bra_callSystem_8 ⟨Nat.le_of_ble_eq_true rfl, Nat.le_of_ble_eq_true rfl⟩ (fun H locs hP hD hS => ?_)
  refine lv_aload_n hx hb d_Bra_callSystem_11 rfl (lv_at hl 0 rfl) ?_
  refine va_get (D := D) (ci := 2) (v := .ref aS) (C := "MappedProcessor$Branches") (T := T_Bra) (N := 1) hx hb hB iw_Bra hown hK hP 3 rfl rfl 0 (by decide) (hB _ mw_179) (fun _ h9 => h9) rfl d_Bra_callSystem_12 ?_
  refine lv_bipush (v := (6 : Int32)) hx hb d_Bra_callSystem_15 (by decide) ?_
  refine lv_aload_n hx hb d_Bra_callSystem_17 rfl (lv_at hl 0 rfl) ?_
  refine va_get (D := D) (ci := 2) (v := .ref aS) (C := "MappedProcessor$Branches") (T := T_Bra) (N := 1) hx hb hB iw_Bra hown hK hP 3 rfl rfl 0 (by decide) (hB _ mw_179) (fun _ h9 => h9) rfl d_Bra_callSystem_18 ?_
  refine lv_iconst (v := (0 : Int32)) hx hb d_Bra_callSystem_21 (by decide) ?_
  refine k_cVi (As := [.int (0 : Int32)]) (rest := [.int (6 : Int32), .ref aS]) (wr := [(aB, .inr (2, [.ref aS]))]) (wj := [(aS, .inr (9, [.ref aG, .ref aX, .int t1.2.1, .int t1.2.2.1, .int sm, .int t1.2.2.2])), (aG, .inl (cG, 32, .inl g)), (aX, .inl (cX, 64, .inl t1.1)), (aB, .inr (2, [.ref aS]))]) ⟨hx, hb, hml, hown, hB⟩ (c_Sta_read l D aS aG aX cG cX g t1.1 t1.2.1 t1.2.2.1 sm t1.2.2.2 (0 : Int32)) yl_Sta_read mw_432 hK hN hP hD hS hA [0, 1] [0, 1, 2] [3] [1, 2, 3, 0] rfl rfl rfl rfl (by decide +kernel) 0 rfl rfl rfl rfl hl.1 rfl (Nat.le_of_ble_eq_true rfl) ⟨Nat.le_of_ble_eq_true rfl, Nat.le_of_ble_eq_true rfl⟩ d_Bra_callSystem_22 ⟨Nat.le_of_ble_eq_true rfl, Nat.le_of_ble_eq_true rfl⟩ (fun H locs hP hD hS => ?_)
  refine lv_iconst (v := (4 : Int32)) hx hb d_Bra_callSystem_25 (by decide) ?_
  refine lv_iadd hx hb d_Bra_callSystem_26 ?_
  refine k_cVv (As := [.int (6 : Int32), .int ((f_Sta_read (0 : Int32) t1.1) + (4 : Int32))]) (rest := []) (wr := [(aB, .inr (2, [.ref aS]))]) (wj := [(aS, .inr (9, [.ref aG, .ref aX, .int t1.2.1, .int t1.2.2.1, .int sm, .int t1.2.2.2])), (aG, .inl (cG, 32, .inl g)), (aX, .inl (cX, 64, .inl (f_Sta_keep (6 : Int32) ((f_Sta_read (0 : Int32) t1.1) + (4 : Int32)) t1.1))), (aB, .inr (2, [.ref aS]))]) ⟨hx, hb, hml, hown, hB⟩ (c_Sta_keep l D aS aG aX cG cX g t1.1 t1.2.1 t1.2.2.1 sm t1.2.2.2 (6 : Int32) ((f_Sta_read (0 : Int32) t1.1) + (4 : Int32))) yl_Sta_keep mw_433 hK hN hP hD hS hA [0, 1] [0, 1, 2] [3] [1, 2, 3, 0] rfl rfl rfl rfl (by decide +kernel) 0 rfl rfl rfl rfl hl.1 rfl (Nat.le_of_ble_eq_true rfl) ⟨Nat.le_of_ble_eq_true rfl, Nat.le_of_ble_eq_true rfl⟩ d_Bra_callSystem_27 ⟨Nat.le_of_ble_eq_true rfl, Nat.le_of_ble_eq_true rfl⟩ (fun H locs hP hD hS => ?_)
  have ef : f_Bra_callSystem sp ex = ((f_Sta_keep (6 : Int32) ((f_Sta_read (0 : Int32) t1.1) + (4 : Int32)) t1.1), t1.2.1, t1.2.2.1, t1.2.2.2) := by unfold f_Bra_callSystem; try dsimp only
  exact k_vret hx hb hr hlocks hK hP hD hS [0, 1, 2, 3] rfl (by rw [ef] <;> rfl) d_Bra_callSystem_30
/-! MappedProcessor$Branches.runs(LMappedProcessor$Instruction;)Z -/
theorem d_Bra_runs_0 : decode b_Bra_runs 0 = .ok (.aload_n 1, 1) := by decide +kernel
theorem d_Bra_runs_1 : decode b_Bra_runs 1 = .ok (.getfield 15, 3) := by decide +kernel
theorem d_Bra_runs_4 : decode b_Bra_runs 4 = .ok (.tableswitch 93 16 18 #[28, 60, 66], 28) := by decide +kernel
theorem d_Bra_runs_32 : decode b_Bra_runs 32 = .ok (.aload_n 0, 1) := by decide +kernel
theorem d_Bra_runs_33 : decode b_Bra_runs 33 = .ok (.aload_n 1, 1) := by decide +kernel
theorem d_Bra_runs_34 : decode b_Bra_runs 34 = .ok (.aload_n 0, 1) := by decide +kernel
theorem d_Bra_runs_35 : decode b_Bra_runs 35 = .ok (.aload_n 1, 1) := by decide +kernel
theorem d_Bra_runs_36 : decode b_Bra_runs 36 = .ok (.getfield 21, 3) := by decide +kernel
theorem d_Bra_runs_39 : decode b_Bra_runs 39 = .ok (.aload_n 1, 1) := by decide +kernel
theorem d_Bra_runs_40 : decode b_Bra_runs 40 = .ok (.getfield 24, 3) := by decide +kernel
theorem d_Bra_runs_43 : decode b_Bra_runs 43 = .ok (.invokevirtual 27, 3) := by decide +kernel
theorem d_Bra_runs_46 : decode b_Bra_runs 46 = .ok (.aload_n 0, 1) := by decide +kernel
theorem d_Bra_runs_47 : decode b_Bra_runs 47 = .ok (.aload_n 1, 1) := by decide +kernel
theorem d_Bra_runs_48 : decode b_Bra_runs 48 = .ok (.invokevirtual 31, 3) := by decide +kernel
theorem d_Bra_runs_51 : decode b_Bra_runs 51 = .ok (.aload_n 1, 1) := by decide +kernel
theorem d_Bra_runs_52 : decode b_Bra_runs 52 = .ok (.getfield 35, 3) := by decide +kernel
theorem d_Bra_runs_55 : decode b_Bra_runs 55 = .ok (.bipush (-4), 2) := by decide +kernel
theorem d_Bra_runs_57 : decode b_Bra_runs 57 = .ok (.iand, 1) := by decide +kernel
theorem d_Bra_runs_58 : decode b_Bra_runs 58 = .ok (.iadd, 1) := by decide +kernel
theorem d_Bra_runs_59 : decode b_Bra_runs 59 = .ok (.invokevirtual 38, 3) := by decide +kernel
theorem d_Bra_runs_62 : decode b_Bra_runs 62 = .ok (.iconst 1, 1) := by decide +kernel
theorem d_Bra_runs_63 : decode b_Bra_runs 63 = .ok (.ireturn, 1) := by decide +kernel
theorem d_Bra_runs_64 : decode b_Bra_runs 64 = .ok (.aload_n 0, 1) := by decide +kernel
theorem d_Bra_runs_65 : decode b_Bra_runs 65 = .ok (.invokevirtual 42, 3) := by decide +kernel
theorem d_Bra_runs_68 : decode b_Bra_runs 68 = .ok (.iconst 1, 1) := by decide +kernel
theorem d_Bra_runs_69 : decode b_Bra_runs 69 = .ok (.ireturn, 1) := by decide +kernel
theorem d_Bra_runs_70 : decode b_Bra_runs 70 = .ok (.aload_n 0, 1) := by decide +kernel
theorem d_Bra_runs_71 : decode b_Bra_runs 71 = .ok (.aload_n 1, 1) := by decide +kernel
theorem d_Bra_runs_72 : decode b_Bra_runs 72 = .ok (.iconst 1, 1) := by decide +kernel
theorem d_Bra_runs_73 : decode b_Bra_runs 73 = .ok (.aload_n 0, 1) := by decide +kernel
theorem d_Bra_runs_74 : decode b_Bra_runs 74 = .ok (.aload_n 1, 1) := by decide +kernel
theorem d_Bra_runs_75 : decode b_Bra_runs 75 = .ok (.invokevirtual 31, 3) := by decide +kernel
theorem d_Bra_runs_78 : decode b_Bra_runs 78 = .ok (.aload_n 1, 1) := by decide +kernel
theorem d_Bra_runs_79 : decode b_Bra_runs 79 = .ok (.getfield 45, 3) := by decide +kernel
theorem d_Bra_runs_82 : decode b_Bra_runs 82 = .ok (.bipush 6, 2) := by decide +kernel
theorem d_Bra_runs_84 : decode b_Bra_runs 84 = .ok (.ishl, 1) := by decide +kernel
theorem d_Bra_runs_85 : decode b_Bra_runs 85 = .ok (.bipush 6, 2) := by decide +kernel
theorem d_Bra_runs_87 : decode b_Bra_runs 87 = .ok (.ishr, 1) := by decide +kernel
theorem d_Bra_runs_88 : decode b_Bra_runs 88 = .ok (.bipush (-4), 2) := by decide +kernel
theorem d_Bra_runs_90 : decode b_Bra_runs 90 = .ok (.iand, 1) := by decide +kernel
theorem d_Bra_runs_91 : decode b_Bra_runs 91 = .ok (.iadd, 1) := by decide +kernel
theorem d_Bra_runs_92 : decode b_Bra_runs 92 = .ok (.invokevirtual 38, 3) := by decide +kernel
theorem d_Bra_runs_95 : decode b_Bra_runs 95 = .ok (.iconst 1, 1) := by decide +kernel
theorem d_Bra_runs_96 : decode b_Bra_runs 96 = .ok (.ireturn, 1) := by decide +kernel
theorem d_Bra_runs_97 : decode b_Bra_runs 97 = .ok (.iconst 0, 1) := by decide +kernel
theorem d_Bra_runs_98 : decode b_Bra_runs 98 = .ok (.ireturn, 1) := by decide +kernel
def f_Bra_runs (sp : Nat → Int32) (nx : Int32) (lt : Int32) (ex : Int32) (iw : Int32) (io : Int32) (id : Int32) (ia : Int32) (is : Int32) : Int32 × (Nat → Int32) × Int32 × Int32 × Int32 :=
  if io = (16 : Int32) then
    let t2 := (f_Bra_taken id ia sp)
    let t3 := (f_Bra_branch t2.1 ((f_Bra_origin t2.2 iw) + (is &&& (-4 : Int32))) t2.2 nx iw)
    ((1 : Int32), t3.1, t3.2, lt, ex)
  else
    if io = (17 : Int32) then
      let t5 := (f_Bra_callSystem sp ex)
      ((1 : Int32), t5.1, t5.2.1, t5.2.2.1, t5.2.2.2)
    else
      if io = (18 : Int32) then
        let t7 := (f_Bra_branch (1 : Int32) ((f_Bra_origin sp iw) + ((shr (shl iw (6 : Int32)) (6 : Int32)) &&& (-4 : Int32))) sp nx iw)
        ((1 : Int32), t7.1, t7.2, lt, ex)
      else
        ((0 : Int32), sp, nx, lt, ex)
set_option maxHeartbeats 4000000 in
set_option maxRecDepth 100000 in
theorem ib_Bra_runs (sp : Nat → Int32) (nx : Int32) (lt : Int32) (ex : Int32) (iw : Int32) (io : Int32) (id : Int32) (ia : Int32) (is : Int32) : isB (f_Bra_runs sp nx lt ex iw io id ia is).1 := by
  unfold f_Bra_runs
  try dsimp only
  repeat' (first | refine ib_ite ?_ ?_ | refine ib_ite0 ?_ ?_ | with_reducible exact ib0 | with_reducible exact ib1 | with_reducible exact ib_Bra_taken _ _ _ | (dsimp only; first | exact ib0 | exact ib1))
theorem nb_Bra_runs (sp : Nat → Int32) (nx : Int32) (lt : Int32) (ex : Int32) (iw : Int32) (io : Int32) (id : Int32) (ia : Int32) (is : Int32) : narrow .boolean (.int (f_Bra_runs sp nx lt ex iw io id ia is).1) = .int (f_Bra_runs sp nx lt ex iw io id ia is).1 := nb_of (ib_Bra_runs sp nx lt ex iw io id ia is)
set_option maxHeartbeats 4000000 in
set_option maxRecDepth 100000 in
theorem c_Bra_runs (l : Launch) (D : va_G) (aS aG aX aI aB : Nat) (cG cX : ClassId) (g : Nat → Int32) (sp : Nat → Int32) (nx : Int32) (lt : Int32) (sm : Int32) (ex : Int32) (iw : Int32) (io : Int32) (id : Int32) (ia : Int32) (ib : Int32) (ii : Int32) (is : Int32) (iu : Int32) (_q0 : Nat) : kMi l y_Bra_runs b_Bra_runs 2 (some .boolean) 2 46 D kCl [(cG, .int), (cX, .int)] [.ref aB, .ref aI] [(aS, .inr (9, [.ref aG, .ref aX, .int nx, .int lt, .int sm, .int ex])), (aG, .inl (cG, 32, .inl g)), (aX, .inl (cX, 64, .inl sp)), (aI, .inr (5, [.int iw, .int io, .int id, .int ia, .int ib, .int ii, .int is, .int iu])), (aB, .inr (2, [.ref aS]))] (f_Bra_runs sp nx lt ex iw io id ia is).1 [(aS, .inr (9, [.ref aG, .ref aX, .int (f_Bra_runs sp nx lt ex iw io id ia is).2.2.1, .int (f_Bra_runs sp nx lt ex iw io id ia is).2.2.2.1, .int sm, .int (f_Bra_runs sp nx lt ex iw io id ia is).2.2.2.2])), (aG, .inl (cG, 32, .inl g)), (aX, .inl (cX, 64, .inl (f_Bra_runs sp nx lt ex iw io id ia is).2.1)), (aI, .inr (5, [.int iw, .int io, .int id, .int ia, .int ib, .int ii, .int is, .int iu])), (aB, .inr (2, [.ref aS]))] := by
  refine k_entry (Qc := fun A => kQi D kCl [(cG, .int), (cX, .int)] (f_Bra_runs sp nx lt ex iw io id ia is).1 [(aS, .inr (9, [.ref aG, .ref aX, .int (f_Bra_runs sp nx lt ex iw io id ia is).2.2.1, .int (f_Bra_runs sp nx lt ex iw io id ia is).2.2.2.1, .int sm, .int (f_Bra_runs sp nx lt ex iw io id ia is).2.2.2.2])), (aG, .inl (cG, 32, .inl g)), (aX, .inl (cX, 64, .inl (f_Bra_runs sp nx lt ex iw io id ia is).2.1)), (aI, .inr (5, [.int iw, .int io, .int id, .int ia, .int ib, .int ii, .int is, .int iu])), (aB, .inr (2, [.ref aS]))] A) (lv := [(0, .ref aB), (1, .ref aI)]) (by decide) (Nat.le_of_ble_eq_true rfl) rfl ?_
  intro p e s m below meth c A ls hx hb hr hml hB hown hlocks hin hA hK hN hP hD hS hl
  have hown : s.vm.findClass "MappedProcessor$Branches" = some m.cls := hown
  refine lv_aload_n hx hb d_Bra_runs_0 rfl (lv_at hl 1 rfl) ?_
  refine va_get (D := D) (ci := 5) (v := .int io) (C := "MappedProcessor$Instruction") (T := T_Ins) (N := 8) hx hb hB iw_Ins hown hK hP 3 rfl rfl 1 (by decide) (hB _ mw_83) (fun _ h9 => h9) rfl d_Bra_runs_1 ?_
  by_cases h1 : io = (16 : Int32)
  · refine k_table (off := 28) (tgt := 32) hx hb d_Bra_runs_4 (by have hq9 := h1 <;> rw [hq9] <;> rfl) (by decide) ?_
    refine lv_aload_n hx hb d_Bra_runs_32 rfl (lv_at hl 0 rfl) ?_
    refine lv_aload_n hx hb d_Bra_runs_33 rfl (lv_at hl 1 rfl) ?_
    refine lv_aload_n hx hb d_Bra_runs_34 rfl (lv_at hl 0 rfl) ?_
    refine lv_aload_n hx hb d_Bra_runs_35 rfl (lv_at hl 1 rfl) ?_
    refine va_get (D := D) (ci := 5) (v := .int id) (C := "MappedProcessor$Instruction") (T := T_Ins) (N := 8) hx hb hB iw_Ins hown hK hP 3 rfl rfl 2 (by decide) (hB _ mw_92) (fun _ h9 => h9) rfl d_Bra_runs_36 ?_
    refine lv_aload_n hx hb d_Bra_runs_39 rfl (lv_at hl 1 rfl) ?_
    refine va_get (D := D) (ci := 5) (v := .int ia) (C := "MappedProcessor$Instruction") (T := T_Ins) (N := 8) hx hb hB iw_Ins hown hK hP 3 rfl rfl 3 (by decide) (hB _ mw_101) (fun _ h9 => h9) rfl d_Bra_runs_40 ?_
    let t2 := (f_Bra_taken id ia sp)
    refine k_cVi (As := [.int id, .int ia]) (rest := [.ref aI, .ref aB]) (wr := [(aI, .inr (5, [.int iw, .int io, .int id, .int ia, .int ib, .int ii, .int is, .int iu]))]) (wj := [(aS, .inr (9, [.ref aG, .ref aX, .int nx, .int lt, .int sm, .int ex])), (aG, .inl (cG, 32, .inl g)), (aX, .inl (cX, 64, .inl t2.2)), (aI, .inr (5, [.int iw, .int io, .int id, .int ia, .int ib, .int ii, .int is, .int iu])), (aB, .inr (2, [.ref aS]))]) ⟨hx, hb, hml, hown, hB⟩ (c_Bra_taken l D aS aG aX aB cG cX g sp nx lt sm ex id ia) yl_Bra_taken mw_428 hK hN hP hD hS hA [0, 1] [0, 1, 2, 4] [3] [1, 2, 3, 0, 4] rfl rfl rfl rfl (by decide +kernel) 3 rfl rfl rfl rfl hl.1 rfl (Nat.le_of_ble_eq_true rfl) ⟨Nat.le_of_ble_eq_true rfl, Nat.le_of_ble_eq_true rfl⟩ d_Bra_runs_43 ⟨Nat.le_of_ble_eq_true rfl, Nat.le_of_ble_eq_true rfl⟩ (fun H locs hP hD hS => ?_)
    refine lv_aload_n hx hb d_Bra_runs_46 rfl (lv_at hl 0 rfl) ?_
    refine lv_aload_n hx hb d_Bra_runs_47 rfl (lv_at hl 1 rfl) ?_
    refine k_cVi (As := [.ref aI]) (rest := [.int t2.1, .ref aI, .ref aB]) (wr := []) (wj := [(aS, .inr (9, [.ref aG, .ref aX, .int nx, .int lt, .int sm, .int ex])), (aG, .inl (cG, 32, .inl g)), (aX, .inl (cX, 64, .inl t2.2)), (aI, .inr (5, [.int iw, .int io, .int id, .int ia, .int ib, .int ii, .int is, .int iu])), (aB, .inr (2, [.ref aS]))]) ⟨hx, hb, hml, hown, hB⟩ (c_Bra_origin l D aS aG aX aI aB cG cX g t2.2 nx lt sm ex iw io id ia ib ii is iu aI) yl_Bra_origin mw_438 hK hN hP hD hS hA [0, 1] [0, 1, 2, 3, 4] [] [0, 1, 2, 3, 4] rfl rfl rfl rfl (by decide +kernel) 4 rfl rfl rfl rfl hl.1 rfl (Nat.le_of_ble_eq_true rfl) ⟨Nat.le_of_ble_eq_true rfl, Nat.le_of_ble_eq_true rfl⟩ d_Bra_runs_48 ⟨Nat.le_of_ble_eq_true rfl, Nat.le_of_ble_eq_true rfl⟩ (fun H locs hP hD hS => ?_)
    refine lv_aload_n hx hb d_Bra_runs_51 rfl (lv_at hl 1 rfl) ?_
    refine va_get (D := D) (ci := 5) (v := .int is) (C := "MappedProcessor$Instruction") (T := T_Ins) (N := 8) hx hb hB iw_Ins hown hK hP 3 rfl rfl 6 (by decide) (hB _ mw_119) (fun _ h9 => h9) rfl d_Bra_runs_52 ?_
    refine lv_bipush (v := (-4 : Int32)) hx hb d_Bra_runs_55 (by decide) ?_
    refine lv_iand hx hb d_Bra_runs_57 ?_
    refine lv_iadd hx hb d_Bra_runs_58 ?_
    let t3 := (f_Bra_branch t2.1 ((f_Bra_origin t2.2 iw) + (is &&& (-4 : Int32))) t2.2 nx iw)
    refine k_cVv (As := [.ref aI, .int t2.1, .int ((f_Bra_origin t2.2 iw) + (is &&& (-4 : Int32)))]) (rest := []) (wr := []) (wj := [(aS, .inr (9, [.ref aG, .ref aX, .int t3.2, .int lt, .int sm, .int ex])), (aG, .inl (cG, 32, .inl g)), (aX, .inl (cX, 64, .inl t3.1)), (aI, .inr (5, [.int iw, .int io, .int id, .int ia, .int ib, .int ii, .int is, .int iu])), (aB, .inr (2, [.ref aS]))]) ⟨hx, hb, hml, hown, hB⟩ (c_Bra_branch l D aS aG aX aI aB cG cX g t2.2 nx lt sm ex iw io id ia ib ii is iu aI t2.1 ((f_Bra_origin t2.2 iw) + (is &&& (-4 : Int32)))) yl_Bra_branch mw_446 hK hN hP hD hS hA [0, 1] [0, 1, 2, 3, 4] [] [0, 1, 2, 3, 4] rfl rfl rfl rfl (by decide +kernel) 4 rfl rfl rfl rfl hl.1 rfl (Nat.le_of_ble_eq_true rfl) ⟨Nat.le_of_ble_eq_true rfl, Nat.le_of_ble_eq_true rfl⟩ d_Bra_runs_59 ⟨Nat.le_of_ble_eq_true rfl, Nat.le_of_ble_eq_true rfl⟩ (fun H locs hP hD hS => ?_)
    refine lv_iconst (v := (1 : Int32)) hx hb d_Bra_runs_62 (by decide) ?_
    have ef : f_Bra_runs sp nx lt ex iw io id ia is = ((1 : Int32), t3.1, t3.2, lt, ex) := by unfold f_Bra_runs; try dsimp only; rw [if_pos h1]
    exact k_zret hx hb hr hlocks hK hP hD hS [0, 1, 2, 3, 4] rfl (by rw [ef] <;> rfl) (by rw [ef] <;> rfl) nb1 d_Bra_runs_63
  · by_cases h4 : io = (17 : Int32)
    · refine k_table (off := 60) (tgt := 64) hx hb d_Bra_runs_4 (by have hq9 := h4 <;> rw [hq9] <;> rfl) (by decide) ?_
      refine lv_aload_n hx hb d_Bra_runs_64 rfl (lv_at hl 0 rfl) ?_
      let t5 := (f_Bra_callSystem sp ex)
      refine k_cVv (As := []) (rest := []) (wr := [(aI, .inr (5, [.int iw, .int io, .int id, .int ia, .int ib, .int ii, .int is, .int iu]))]) (wj := [(aS, .inr (9, [.ref aG, .ref aX, .int t5.2.1, .int t5.2.2.1, .int sm, .int t5.2.2.2])), (aG, .inl (cG, 32, .inl g)), (aX, .inl (cX, 64, .inl t5.1)), (aI, .inr (5, [.int iw, .int io, .int id, .int ia, .int ib, .int ii, .int is, .int iu])), (aB, .inr (2, [.ref aS]))]) ⟨hx, hb, hml, hown, hB⟩ (c_Bra_callSystem l D aS aG aX aB cG cX g sp nx lt sm ex) yl_Bra_callSystem mw_454 hK hN hP hD hS hA [0, 1] [0, 1, 2, 4] [3] [1, 2, 3, 0, 4] rfl rfl rfl rfl (by decide +kernel) 3 rfl rfl rfl rfl hl.1 rfl (Nat.le_of_ble_eq_true rfl) ⟨Nat.le_of_ble_eq_true rfl, Nat.le_of_ble_eq_true rfl⟩ d_Bra_runs_65 ⟨Nat.le_of_ble_eq_true rfl, Nat.le_of_ble_eq_true rfl⟩ (fun H locs hP hD hS => ?_)
      refine lv_iconst (v := (1 : Int32)) hx hb d_Bra_runs_68 (by decide) ?_
      have ef : f_Bra_runs sp nx lt ex iw io id ia is = ((1 : Int32), t5.1, t5.2.1, t5.2.2.1, t5.2.2.2) := by unfold f_Bra_runs; try dsimp only; rw [if_neg h1, if_pos h4]
      exact k_zret hx hb hr hlocks hK hP hD hS [0, 1, 2, 3, 4] rfl (by rw [ef] <;> rfl) (by rw [ef] <;> rfl) nb1 d_Bra_runs_69
    · by_cases h6 : io = (18 : Int32)
      · refine k_table (off := 66) (tgt := 70) hx hb d_Bra_runs_4 (by have hq9 := h6 <;> rw [hq9] <;> rfl) (by decide) ?_
        refine lv_aload_n hx hb d_Bra_runs_70 rfl (lv_at hl 0 rfl) ?_
        refine lv_aload_n hx hb d_Bra_runs_71 rfl (lv_at hl 1 rfl) ?_
        refine lv_iconst (v := (1 : Int32)) hx hb d_Bra_runs_72 (by decide) ?_
        refine lv_aload_n hx hb d_Bra_runs_73 rfl (lv_at hl 0 rfl) ?_
        refine lv_aload_n hx hb d_Bra_runs_74 rfl (lv_at hl 1 rfl) ?_
        refine k_cVi (As := [.ref aI]) (rest := [.int (1 : Int32), .ref aI, .ref aB]) (wr := []) (wj := [(aS, .inr (9, [.ref aG, .ref aX, .int nx, .int lt, .int sm, .int ex])), (aG, .inl (cG, 32, .inl g)), (aX, .inl (cX, 64, .inl sp)), (aI, .inr (5, [.int iw, .int io, .int id, .int ia, .int ib, .int ii, .int is, .int iu])), (aB, .inr (2, [.ref aS]))]) ⟨hx, hb, hml, hown, hB⟩ (c_Bra_origin l D aS aG aX aI aB cG cX g sp nx lt sm ex iw io id ia ib ii is iu aI) yl_Bra_origin mw_438 hK hN hP hD hS hA [0, 1] [0, 1, 2, 3, 4] [] [0, 1, 2, 3, 4] rfl rfl rfl rfl (by decide +kernel) 4 rfl rfl rfl rfl hl.1 rfl (Nat.le_of_ble_eq_true rfl) ⟨Nat.le_of_ble_eq_true rfl, Nat.le_of_ble_eq_true rfl⟩ d_Bra_runs_75 ⟨Nat.le_of_ble_eq_true rfl, Nat.le_of_ble_eq_true rfl⟩ (fun H locs hP hD hS => ?_)
        refine lv_aload_n hx hb d_Bra_runs_78 rfl (lv_at hl 1 rfl) ?_
        refine va_get (D := D) (ci := 5) (v := .int iw) (C := "MappedProcessor$Instruction") (T := T_Ins) (N := 8) hx hb hB iw_Ins hown hK hP 3 rfl rfl 0 (by decide) (hB _ mw_81) (fun _ h9 => h9) rfl d_Bra_runs_79 ?_
        refine lv_bipush (v := (6 : Int32)) hx hb d_Bra_runs_82 (by decide) ?_
        refine lv_ishl hx hb d_Bra_runs_84 ?_
        refine lv_bipush (v := (6 : Int32)) hx hb d_Bra_runs_85 (by decide) ?_
        refine lv_ishr hx hb d_Bra_runs_87 ?_
        refine lv_bipush (v := (-4 : Int32)) hx hb d_Bra_runs_88 (by decide) ?_
        refine lv_iand hx hb d_Bra_runs_90 ?_
        refine lv_iadd hx hb d_Bra_runs_91 ?_
        let t7 := (f_Bra_branch (1 : Int32) ((f_Bra_origin sp iw) + ((shr (shl iw (6 : Int32)) (6 : Int32)) &&& (-4 : Int32))) sp nx iw)
        refine k_cVv (As := [.ref aI, .int (1 : Int32), .int ((f_Bra_origin sp iw) + ((shr (shl iw (6 : Int32)) (6 : Int32)) &&& (-4 : Int32)))]) (rest := []) (wr := []) (wj := [(aS, .inr (9, [.ref aG, .ref aX, .int t7.2, .int lt, .int sm, .int ex])), (aG, .inl (cG, 32, .inl g)), (aX, .inl (cX, 64, .inl t7.1)), (aI, .inr (5, [.int iw, .int io, .int id, .int ia, .int ib, .int ii, .int is, .int iu])), (aB, .inr (2, [.ref aS]))]) ⟨hx, hb, hml, hown, hB⟩ (c_Bra_branch l D aS aG aX aI aB cG cX g sp nx lt sm ex iw io id ia ib ii is iu aI (1 : Int32) ((f_Bra_origin sp iw) + ((shr (shl iw (6 : Int32)) (6 : Int32)) &&& (-4 : Int32)))) yl_Bra_branch mw_446 hK hN hP hD hS hA [0, 1] [0, 1, 2, 3, 4] [] [0, 1, 2, 3, 4] rfl rfl rfl rfl (by decide +kernel) 4 rfl rfl rfl rfl hl.1 rfl (Nat.le_of_ble_eq_true rfl) ⟨Nat.le_of_ble_eq_true rfl, Nat.le_of_ble_eq_true rfl⟩ d_Bra_runs_92 ⟨Nat.le_of_ble_eq_true rfl, Nat.le_of_ble_eq_true rfl⟩ (fun H locs hP hD hS => ?_)
        refine lv_iconst (v := (1 : Int32)) hx hb d_Bra_runs_95 (by decide) ?_
        have ef : f_Bra_runs sp nx lt ex iw io id ia is = ((1 : Int32), t7.1, t7.2, lt, ex) := by unfold f_Bra_runs; try dsimp only; rw [if_neg h1, if_neg h4, if_pos h6]
        exact k_zret hx hb hr hlocks hK hP hD hS [0, 1, 2, 3, 4] rfl (by rw [ef] <;> rfl) (by rw [ef] <;> rfl) nb1 d_Bra_runs_96
      · refine k_table (off := 93) (tgt := 97) hx hb d_Bra_runs_4 (by
            have ee0 := lv_neT (a := 16) h1 (by decide); have ee1 := lv_neT (a := 17) h4 (by decide); have ee2 := lv_neT (a := 18) h6 (by decide)
            by_cases hq9 : io.toInt < 16 ∨ 18 < io.toInt
            · rw [if_pos hq9]
            · exact absurd (by omega) hq9) (by decide) ?_
        refine lv_iconst (v := (0 : Int32)) hx hb d_Bra_runs_97 (by decide) ?_
        have ef : f_Bra_runs sp nx lt ex iw io id ia is = ((0 : Int32), sp, nx, lt, ex) := by unfold f_Bra_runs; try dsimp only; rw [if_neg h1, if_neg h4, if_neg h6]
        exact k_zret hx hb hr hlocks hK hP hD hS [0, 1, 2, 3, 4] rfl (by rw [ef] <;> rfl) (by rw [ef] <;> rfl) nb0 d_Bra_runs_98
/-! MappedProcessor$Branches.returnFromException()V -/
theorem d_Bra_returnFromException_0 : decode b_Bra_returnFromException 0 = .ok (.aload_n 0, 1) := by decide +kernel
theorem d_Bra_returnFromException_1 : decode b_Bra_returnFromException 1 = .ok (.getfield 9, 3) := by decide +kernel
theorem d_Bra_returnFromException_4 : decode b_Bra_returnFromException 4 = .ok (.invokevirtual 84, 3) := by decide +kernel
theorem d_Bra_returnFromException_7 : decode b_Bra_returnFromException 7 = .ok (.ifCond .ne 42, 3) := by decide +kernel
theorem d_Bra_returnFromException_10 : decode b_Bra_returnFromException 10 = .ok (.aload_n 0, 1) := by decide +kernel
theorem d_Bra_returnFromException_11 : decode b_Bra_returnFromException 11 = .ok (.getfield 9, 3) := by decide +kernel
theorem d_Bra_returnFromException_14 : decode b_Bra_returnFromException 14 = .ok (.iconst 1, 1) := by decide +kernel
theorem d_Bra_returnFromException_15 : decode b_Bra_returnFromException 15 = .ok (.aload_n 0, 1) := by decide +kernel
theorem d_Bra_returnFromException_16 : decode b_Bra_returnFromException 16 = .ok (.getfield 9, 3) := by decide +kernel
theorem d_Bra_returnFromException_19 : decode b_Bra_returnFromException 19 = .ok (.bipush 7, 2) := by decide +kernel
theorem d_Bra_returnFromException_21 : decode b_Bra_returnFromException 21 = .ok (.invokevirtual 51, 3) := by decide +kernel
theorem d_Bra_returnFromException_24 : decode b_Bra_returnFromException 24 = .ok (.ldc 88, 2) := by decide +kernel
theorem d_Bra_returnFromException_26 : decode b_Bra_returnFromException 26 = .ok (.iand, 1) := by decide +kernel
theorem d_Bra_returnFromException_27 : decode b_Bra_returnFromException 27 = .ok (.invokevirtual 74, 3) := by decide +kernel
theorem d_Bra_returnFromException_30 : decode b_Bra_returnFromException 30 = .ok (.aload_n 0, 1) := by decide +kernel
theorem d_Bra_returnFromException_31 : decode b_Bra_returnFromException 31 = .ok (.getfield 9, 3) := by decide +kernel
theorem d_Bra_returnFromException_34 : decode b_Bra_returnFromException 34 = .ok (.aload_n 0, 1) := by decide +kernel
theorem d_Bra_returnFromException_35 : decode b_Bra_returnFromException 35 = .ok (.getfield 9, 3) := by decide +kernel
theorem d_Bra_returnFromException_38 : decode b_Bra_returnFromException 38 = .ok (.bipush 6, 2) := by decide +kernel
theorem d_Bra_returnFromException_40 : decode b_Bra_returnFromException 40 = .ok (.invokevirtual 51, 3) := by decide +kernel
theorem d_Bra_returnFromException_43 : decode b_Bra_returnFromException 43 = .ok (.bipush (-4), 2) := by decide +kernel
theorem d_Bra_returnFromException_45 : decode b_Bra_returnFromException 45 = .ok (.iand, 1) := by decide +kernel
theorem d_Bra_returnFromException_46 : decode b_Bra_returnFromException 46 = .ok (.invokevirtual 77, 3) := by decide +kernel
theorem d_Bra_returnFromException_49 : decode b_Bra_returnFromException 49 = .ok (.return_, 1) := by decide +kernel
def f_Bra_returnFromException (sp : Nat → Int32) (nx : Int32) (lt : Int32) (ex : Int32) : (Nat → Int32) × Int32 × Int32 × Int32 :=
  let t1 := (f_Sta_refusesPrivileged sp nx lt ex)
  if t1.1 = (0 : Int32) then
    ((f_Sta_keep (1 : Int32) ((f_Sta_read (7 : Int32) t1.2.1) &&& (65535 : Int32)) t1.2.1), (f_Sta_goTo ((f_Sta_read (6 : Int32) (f_Sta_keep (1 : Int32) ((f_Sta_read (7 : Int32) t1.2.1) &&& (65535 : Int32)) t1.2.1)) &&& (-4 : Int32))), t1.2.2.2.1, t1.2.2.2.2)
  else
    (t1.2.1, t1.2.2.1, t1.2.2.2.1, t1.2.2.2.2)
set_option maxHeartbeats 4000000 in
set_option maxRecDepth 100000 in
theorem c_Bra_returnFromException (l : Launch) (D : va_G) (aS aG aX aB : Nat) (cG cX : ClassId) (g : Nat → Int32) (sp : Nat → Int32) (nx : Int32) (lt : Int32) (sm : Int32) (ex : Int32) : kMv l y_Bra_returnFromException b_Bra_returnFromException 1 none 2 42 D kCl [(cG, .int), (cX, .int)] [.ref aB] [(aS, .inr (9, [.ref aG, .ref aX, .int nx, .int lt, .int sm, .int ex])), (aG, .inl (cG, 32, .inl g)), (aX, .inl (cX, 64, .inl sp)), (aB, .inr (2, [.ref aS]))] [(aS, .inr (9, [.ref aG, .ref aX, .int (f_Bra_returnFromException sp nx lt ex).2.1, .int (f_Bra_returnFromException sp nx lt ex).2.2.1, .int sm, .int (f_Bra_returnFromException sp nx lt ex).2.2.2])), (aG, .inl (cG, 32, .inl g)), (aX, .inl (cX, 64, .inl (f_Bra_returnFromException sp nx lt ex).1)), (aB, .inr (2, [.ref aS]))] := by
  refine k_entry (Qc := fun A => kQv D kCl [(cG, .int), (cX, .int)] [(aS, .inr (9, [.ref aG, .ref aX, .int (f_Bra_returnFromException sp nx lt ex).2.1, .int (f_Bra_returnFromException sp nx lt ex).2.2.1, .int sm, .int (f_Bra_returnFromException sp nx lt ex).2.2.2])), (aG, .inl (cG, 32, .inl g)), (aX, .inl (cX, 64, .inl (f_Bra_returnFromException sp nx lt ex).1)), (aB, .inr (2, [.ref aS]))] A) (lv := [(0, .ref aB)]) (by decide) (Nat.le_of_ble_eq_true rfl) rfl ?_
  intro p e s m below meth c A ls hx hb hr hml hB hown hlocks hin hA hK hN hP hD hS hl
  have hown : s.vm.findClass "MappedProcessor$Branches" = some m.cls := hown
  refine lv_aload_n hx hb d_Bra_returnFromException_0 rfl (lv_at hl 0 rfl) ?_
  refine va_get (D := D) (ci := 2) (v := .ref aS) (C := "MappedProcessor$Branches") (T := T_Bra) (N := 1) hx hb hB iw_Bra hown hK hP 3 rfl rfl 0 (by decide) (hB _ mw_179) (fun _ h9 => h9) rfl d_Bra_returnFromException_1 ?_
  let t1 := (f_Sta_refusesPrivileged sp nx lt ex)
  refine k_cVi (As := []) (rest := []) (wr := [(aB, .inr (2, [.ref aS]))]) (wj := [(aS, .inr (9, [.ref aG, .ref aX, .int t1.2.2.1, .int t1.2.2.2.1, .int sm, .int t1.2.2.2.2])), (aG, .inl (cG, 32, .inl g)), (aX, .inl (cX, 64, .inl t1.2.1)), (aB, .inr (2, [.ref aS]))]) ⟨hx, hb, hml, hown, hB⟩ (c_Sta_refusesPrivileged l D aS aG aX cG cX g sp nx lt sm ex) yl_Sta_refusesPrivileged mw_467 hK hN hP hD hS hA [0, 1] [0, 1, 2] [3] [1, 2, 3, 0] rfl rfl rfl rfl (by decide +kernel) 0 rfl rfl rfl rfl hl.1 rfl (Nat.le_of_ble_eq_true rfl) ⟨Nat.le_of_ble_eq_true rfl, Nat.le_of_ble_eq_true rfl⟩ d_Bra_returnFromException_4 ⟨Nat.le_of_ble_eq_true rfl, Nat.le_of_ble_eq_true rfl⟩ (fun H locs hP hD hS => ?_)
  refine lv_if_ne (tgt := 49) hx hb d_Bra_returnFromException_7 (by decide) (fun (h5 : ¬ t1.1 = (0 : Int32)) => ?_) (fun (h5 : t1.1 = (0 : Int32)) => ?_)
  · have ef : f_Bra_returnFromException sp nx lt ex = (t1.2.1, t1.2.2.1, t1.2.2.2.1, t1.2.2.2.2) := by unfold f_Bra_returnFromException; try dsimp only; rw [if_neg h5]
    exact k_vret hx hb hr hlocks hK hP hD hS [0, 1, 2, 3] rfl (by rw [ef] <;> rfl) d_Bra_returnFromException_49
  · refine lv_aload_n hx hb d_Bra_returnFromException_10 rfl (lv_at hl 0 rfl) ?_
    refine va_get (D := D) (ci := 2) (v := .ref aS) (C := "MappedProcessor$Branches") (T := T_Bra) (N := 1) hx hb hB iw_Bra hown hK hP 3 rfl rfl 0 (by decide) (hB _ mw_179) (fun _ h9 => h9) rfl d_Bra_returnFromException_11 ?_
    refine lv_iconst (v := (1 : Int32)) hx hb d_Bra_returnFromException_14 (by decide) ?_
    refine lv_aload_n hx hb d_Bra_returnFromException_15 rfl (lv_at hl 0 rfl) ?_
    refine va_get (D := D) (ci := 2) (v := .ref aS) (C := "MappedProcessor$Branches") (T := T_Bra) (N := 1) hx hb hB iw_Bra hown hK hP 3 rfl rfl 0 (by decide) (hB _ mw_179) (fun _ h9 => h9) rfl d_Bra_returnFromException_16 ?_
    refine lv_bipush (v := (7 : Int32)) hx hb d_Bra_returnFromException_19 (by decide) ?_
    refine k_cVi (As := [.int (7 : Int32)]) (rest := [.int (1 : Int32), .ref aS]) (wr := [(aB, .inr (2, [.ref aS]))]) (wj := [(aS, .inr (9, [.ref aG, .ref aX, .int t1.2.2.1, .int t1.2.2.2.1, .int sm, .int t1.2.2.2.2])), (aG, .inl (cG, 32, .inl g)), (aX, .inl (cX, 64, .inl t1.2.1)), (aB, .inr (2, [.ref aS]))]) ⟨hx, hb, hml, hown, hB⟩ (c_Sta_read l D aS aG aX cG cX g t1.2.1 t1.2.2.1 t1.2.2.2.1 sm t1.2.2.2.2 (7 : Int32)) yl_Sta_read mw_432 hK hN hP hD hS hA [0, 1] [0, 1, 2] [3] [1, 2, 3, 0] rfl rfl rfl rfl (by decide +kernel) 0 rfl rfl rfl rfl hl.1 rfl (Nat.le_of_ble_eq_true rfl) ⟨Nat.le_of_ble_eq_true rfl, Nat.le_of_ble_eq_true rfl⟩ d_Bra_returnFromException_21 ⟨Nat.le_of_ble_eq_true rfl, Nat.le_of_ble_eq_true rfl⟩ (fun H locs hP hD hS => ?_)
    refine lv_ldc (v := (65535 : Int32)) hx hb hown (hB _ mw_474) d_Bra_returnFromException_24 ?_
    refine lv_iand hx hb d_Bra_returnFromException_26 ?_
    refine k_cVv (As := [.int (1 : Int32), .int ((f_Sta_read (7 : Int32) t1.2.1) &&& (65535 : Int32))]) (rest := []) (wr := [(aB, .inr (2, [.ref aS]))]) (wj := [(aS, .inr (9, [.ref aG, .ref aX, .int t1.2.2.1, .int t1.2.2.2.1, .int sm, .int t1.2.2.2.2])), (aG, .inl (cG, 32, .inl g)), (aX, .inl (cX, 64, .inl (f_Sta_keep (1 : Int32) ((f_Sta_read (7 : Int32) t1.2.1) &&& (65535 : Int32)) t1.2.1))), (aB, .inr (2, [.ref aS]))]) ⟨hx, hb, hml, hown, hB⟩ (c_Sta_keep l D aS aG aX cG cX g t1.2.1 t1.2.2.1 t1.2.2.2.1 sm t1.2.2.2.2 (1 : Int32) ((f_Sta_read (7 : Int32) t1.2.1) &&& (65535 : Int32))) yl_Sta_keep mw_433 hK hN hP hD hS hA [0, 1] [0, 1, 2] [3] [1, 2, 3, 0] rfl rfl rfl rfl (by decide +kernel) 0 rfl rfl rfl rfl hl.1 rfl (Nat.le_of_ble_eq_true rfl) ⟨Nat.le_of_ble_eq_true rfl, Nat.le_of_ble_eq_true rfl⟩ d_Bra_returnFromException_27 ⟨Nat.le_of_ble_eq_true rfl, Nat.le_of_ble_eq_true rfl⟩ (fun H locs hP hD hS => ?_)
    refine lv_aload_n hx hb d_Bra_returnFromException_30 rfl (lv_at hl 0 rfl) ?_
    refine va_get (D := D) (ci := 2) (v := .ref aS) (C := "MappedProcessor$Branches") (T := T_Bra) (N := 1) hx hb hB iw_Bra hown hK hP 3 rfl rfl 0 (by decide) (hB _ mw_179) (fun _ h9 => h9) rfl d_Bra_returnFromException_31 ?_
    refine lv_aload_n hx hb d_Bra_returnFromException_34 rfl (lv_at hl 0 rfl) ?_
    refine va_get (D := D) (ci := 2) (v := .ref aS) (C := "MappedProcessor$Branches") (T := T_Bra) (N := 1) hx hb hB iw_Bra hown hK hP 3 rfl rfl 0 (by decide) (hB _ mw_179) (fun _ h9 => h9) rfl d_Bra_returnFromException_35 ?_
    refine lv_bipush (v := (6 : Int32)) hx hb d_Bra_returnFromException_38 (by decide) ?_
    refine k_cVi (As := [.int (6 : Int32)]) (rest := [.ref aS]) (wr := [(aB, .inr (2, [.ref aS]))]) (wj := [(aS, .inr (9, [.ref aG, .ref aX, .int t1.2.2.1, .int t1.2.2.2.1, .int sm, .int t1.2.2.2.2])), (aG, .inl (cG, 32, .inl g)), (aX, .inl (cX, 64, .inl (f_Sta_keep (1 : Int32) ((f_Sta_read (7 : Int32) t1.2.1) &&& (65535 : Int32)) t1.2.1))), (aB, .inr (2, [.ref aS]))]) ⟨hx, hb, hml, hown, hB⟩ (c_Sta_read l D aS aG aX cG cX g (f_Sta_keep (1 : Int32) ((f_Sta_read (7 : Int32) t1.2.1) &&& (65535 : Int32)) t1.2.1) t1.2.2.1 t1.2.2.2.1 sm t1.2.2.2.2 (6 : Int32)) yl_Sta_read mw_432 hK hN hP hD hS hA [0, 1] [0, 1, 2] [3] [1, 2, 3, 0] rfl rfl rfl rfl (by decide +kernel) 0 rfl rfl rfl rfl hl.1 rfl (Nat.le_of_ble_eq_true rfl) ⟨Nat.le_of_ble_eq_true rfl, Nat.le_of_ble_eq_true rfl⟩ d_Bra_returnFromException_40 ⟨Nat.le_of_ble_eq_true rfl, Nat.le_of_ble_eq_true rfl⟩ (fun H locs hP hD hS => ?_)
    refine lv_bipush (v := (-4 : Int32)) hx hb d_Bra_returnFromException_43 (by decide) ?_
    refine lv_iand hx hb d_Bra_returnFromException_45 ?_
    refine k_cVv (As := [.int ((f_Sta_read (6 : Int32) (f_Sta_keep (1 : Int32) ((f_Sta_read (7 : Int32) t1.2.1) &&& (65535 : Int32)) t1.2.1)) &&& (-4 : Int32))]) (rest := []) (wr := [(aB, .inr (2, [.ref aS]))]) (wj := [(aS, .inr (9, [.ref aG, .ref aX, .int (f_Sta_goTo ((f_Sta_read (6 : Int32) (f_Sta_keep (1 : Int32) ((f_Sta_read (7 : Int32) t1.2.1) &&& (65535 : Int32)) t1.2.1)) &&& (-4 : Int32))), .int t1.2.2.2.1, .int sm, .int t1.2.2.2.2])), (aG, .inl (cG, 32, .inl g)), (aX, .inl (cX, 64, .inl (f_Sta_keep (1 : Int32) ((f_Sta_read (7 : Int32) t1.2.1) &&& (65535 : Int32)) t1.2.1))), (aB, .inr (2, [.ref aS]))]) ⟨hx, hb, hml, hown, hB⟩ (c_Sta_goTo l D aS aG aX cG cX g (f_Sta_keep (1 : Int32) ((f_Sta_read (7 : Int32) t1.2.1) &&& (65535 : Int32)) t1.2.1) t1.2.2.1 t1.2.2.2.1 sm t1.2.2.2.2 ((f_Sta_read (6 : Int32) (f_Sta_keep (1 : Int32) ((f_Sta_read (7 : Int32) t1.2.1) &&& (65535 : Int32)) t1.2.1)) &&& (-4 : Int32))) yl_Sta_goTo mw_450 hK hN hP hD hS hA [0, 1] [0, 1, 2] [3] [1, 2, 3, 0] rfl rfl rfl rfl (by decide +kernel) 0 rfl rfl rfl rfl hl.1 rfl (Nat.le_of_ble_eq_true rfl) ⟨Nat.le_of_ble_eq_true rfl, Nat.le_of_ble_eq_true rfl⟩ d_Bra_returnFromException_46 ⟨Nat.le_of_ble_eq_true rfl, Nat.le_of_ble_eq_true rfl⟩ (fun H locs hP hD hS => ?_)
    have ef : f_Bra_returnFromException sp nx lt ex = ((f_Sta_keep (1 : Int32) ((f_Sta_read (7 : Int32) t1.2.1) &&& (65535 : Int32)) t1.2.1), (f_Sta_goTo ((f_Sta_read (6 : Int32) (f_Sta_keep (1 : Int32) ((f_Sta_read (7 : Int32) t1.2.1) &&& (65535 : Int32)) t1.2.1)) &&& (-4 : Int32))), t1.2.2.2.1, t1.2.2.2.2) := by unfold f_Bra_returnFromException; try dsimp only; rw [if_pos h5]
    exact k_vret hx hb hr hlocks hK hP hD hS [0, 1, 2, 3] rfl (by rw [ef] <;> rfl) d_Bra_returnFromException_49
/-! MappedProcessor$Branches.runsExtended(LMappedProcessor$Instruction;)Z -/
theorem d_Bra_runsExtended_0 : decode b_Bra_runsExtended 0 = .ok (.aload_n 1, 1) := by decide +kernel
theorem d_Bra_runsExtended_1 : decode b_Bra_runsExtended 1 = .ok (.getfield 48, 3) := by decide +kernel
theorem d_Bra_runsExtended_4 : decode b_Bra_runsExtended 4 = .ok (.lookupswitch 246 #[(16, 68), (50, 98), (150, 104), (193, 106), (257, 142), (449, 178), (528, 214)], 68) := by decide +kernel
theorem d_Bra_runsExtended_72 : decode b_Bra_runsExtended 72 = .ok (.aload_n 0, 1) := by decide +kernel
theorem d_Bra_runsExtended_73 : decode b_Bra_runsExtended 73 = .ok (.aload_n 1, 1) := by decide +kernel
theorem d_Bra_runsExtended_74 : decode b_Bra_runsExtended 74 = .ok (.aload_n 0, 1) := by decide +kernel
theorem d_Bra_runsExtended_75 : decode b_Bra_runsExtended 75 = .ok (.aload_n 1, 1) := by decide +kernel
theorem d_Bra_runsExtended_76 : decode b_Bra_runsExtended 76 = .ok (.getfield 21, 3) := by decide +kernel
theorem d_Bra_runsExtended_79 : decode b_Bra_runsExtended 79 = .ok (.aload_n 1, 1) := by decide +kernel
theorem d_Bra_runsExtended_80 : decode b_Bra_runsExtended 80 = .ok (.getfield 24, 3) := by decide +kernel
theorem d_Bra_runsExtended_83 : decode b_Bra_runsExtended 83 = .ok (.invokevirtual 27, 3) := by decide +kernel
theorem d_Bra_runsExtended_86 : decode b_Bra_runsExtended 86 = .ok (.aload_n 0, 1) := by decide +kernel
theorem d_Bra_runsExtended_87 : decode b_Bra_runsExtended 87 = .ok (.getfield 9, 3) := by decide +kernel
theorem d_Bra_runsExtended_90 : decode b_Bra_runsExtended 90 = .ok (.iconst 4, 1) := by decide +kernel
theorem d_Bra_runsExtended_91 : decode b_Bra_runsExtended 91 = .ok (.invokevirtual 51, 3) := by decide +kernel
theorem d_Bra_runsExtended_94 : decode b_Bra_runsExtended 94 = .ok (.bipush (-4), 2) := by decide +kernel
theorem d_Bra_runsExtended_96 : decode b_Bra_runsExtended 96 = .ok (.iand, 1) := by decide +kernel
theorem d_Bra_runsExtended_97 : decode b_Bra_runsExtended 97 = .ok (.invokevirtual 38, 3) := by decide +kernel
theorem d_Bra_runsExtended_100 : decode b_Bra_runsExtended 100 = .ok (.iconst 1, 1) := by decide +kernel
theorem d_Bra_runsExtended_101 : decode b_Bra_runsExtended 101 = .ok (.ireturn, 1) := by decide +kernel
theorem d_Bra_runsExtended_102 : decode b_Bra_runsExtended 102 = .ok (.aload_n 0, 1) := by decide +kernel
theorem d_Bra_runsExtended_103 : decode b_Bra_runsExtended 103 = .ok (.invokevirtual 57, 3) := by decide +kernel
theorem d_Bra_runsExtended_106 : decode b_Bra_runsExtended 106 = .ok (.iconst 1, 1) := by decide +kernel
theorem d_Bra_runsExtended_107 : decode b_Bra_runsExtended 107 = .ok (.ireturn, 1) := by decide +kernel
theorem d_Bra_runsExtended_108 : decode b_Bra_runsExtended 108 = .ok (.iconst 1, 1) := by decide +kernel
theorem d_Bra_runsExtended_109 : decode b_Bra_runsExtended 109 = .ok (.ireturn, 1) := by decide +kernel
theorem d_Bra_runsExtended_110 : decode b_Bra_runsExtended 110 = .ok (.aload_n 0, 1) := by decide +kernel
theorem d_Bra_runsExtended_111 : decode b_Bra_runsExtended 111 = .ok (.getfield 9, 3) := by decide +kernel
theorem d_Bra_runsExtended_114 : decode b_Bra_runsExtended 114 = .ok (.aload_n 1, 1) := by decide +kernel
theorem d_Bra_runsExtended_115 : decode b_Bra_runsExtended 115 = .ok (.getfield 21, 3) := by decide +kernel
theorem d_Bra_runsExtended_118 : decode b_Bra_runsExtended 118 = .ok (.aload_n 0, 1) := by decide +kernel
theorem d_Bra_runsExtended_119 : decode b_Bra_runsExtended 119 = .ok (.getfield 9, 3) := by decide +kernel
theorem d_Bra_runsExtended_122 : decode b_Bra_runsExtended 122 = .ok (.aload_n 1, 1) := by decide +kernel
theorem d_Bra_runsExtended_123 : decode b_Bra_runsExtended 123 = .ok (.getfield 24, 3) := by decide +kernel
theorem d_Bra_runsExtended_126 : decode b_Bra_runsExtended 126 = .ok (.invokevirtual 60, 3) := by decide +kernel
theorem d_Bra_runsExtended_129 : decode b_Bra_runsExtended 129 = .ok (.aload_n 0, 1) := by decide +kernel
theorem d_Bra_runsExtended_130 : decode b_Bra_runsExtended 130 = .ok (.getfield 9, 3) := by decide +kernel
theorem d_Bra_runsExtended_133 : decode b_Bra_runsExtended 133 = .ok (.aload_n 1, 1) := by decide +kernel
theorem d_Bra_runsExtended_134 : decode b_Bra_runsExtended 134 = .ok (.getfield 63, 3) := by decide +kernel
theorem d_Bra_runsExtended_137 : decode b_Bra_runsExtended 137 = .ok (.invokevirtual 60, 3) := by decide +kernel
theorem d_Bra_runsExtended_140 : decode b_Bra_runsExtended 140 = .ok (.ixor, 1) := by decide +kernel
theorem d_Bra_runsExtended_141 : decode b_Bra_runsExtended 141 = .ok (.invokevirtual 66, 3) := by decide +kernel
theorem d_Bra_runsExtended_144 : decode b_Bra_runsExtended 144 = .ok (.iconst 1, 1) := by decide +kernel
theorem d_Bra_runsExtended_145 : decode b_Bra_runsExtended 145 = .ok (.ireturn, 1) := by decide +kernel
theorem d_Bra_runsExtended_146 : decode b_Bra_runsExtended 146 = .ok (.aload_n 0, 1) := by decide +kernel
theorem d_Bra_runsExtended_147 : decode b_Bra_runsExtended 147 = .ok (.getfield 9, 3) := by decide +kernel
theorem d_Bra_runsExtended_150 : decode b_Bra_runsExtended 150 = .ok (.aload_n 1, 1) := by decide +kernel
theorem d_Bra_runsExtended_151 : decode b_Bra_runsExtended 151 = .ok (.getfield 21, 3) := by decide +kernel
theorem d_Bra_runsExtended_154 : decode b_Bra_runsExtended 154 = .ok (.aload_n 0, 1) := by decide +kernel
theorem d_Bra_runsExtended_155 : decode b_Bra_runsExtended 155 = .ok (.getfield 9, 3) := by decide +kernel
theorem d_Bra_runsExtended_158 : decode b_Bra_runsExtended 158 = .ok (.aload_n 1, 1) := by decide +kernel
theorem d_Bra_runsExtended_159 : decode b_Bra_runsExtended 159 = .ok (.getfield 24, 3) := by decide +kernel
theorem d_Bra_runsExtended_162 : decode b_Bra_runsExtended 162 = .ok (.invokevirtual 60, 3) := by decide +kernel
theorem d_Bra_runsExtended_165 : decode b_Bra_runsExtended 165 = .ok (.aload_n 0, 1) := by decide +kernel
theorem d_Bra_runsExtended_166 : decode b_Bra_runsExtended 166 = .ok (.getfield 9, 3) := by decide +kernel
theorem d_Bra_runsExtended_169 : decode b_Bra_runsExtended 169 = .ok (.aload_n 1, 1) := by decide +kernel
theorem d_Bra_runsExtended_170 : decode b_Bra_runsExtended 170 = .ok (.getfield 63, 3) := by decide +kernel
theorem d_Bra_runsExtended_173 : decode b_Bra_runsExtended 173 = .ok (.invokevirtual 60, 3) := by decide +kernel
theorem d_Bra_runsExtended_176 : decode b_Bra_runsExtended 176 = .ok (.iand, 1) := by decide +kernel
theorem d_Bra_runsExtended_177 : decode b_Bra_runsExtended 177 = .ok (.invokevirtual 66, 3) := by decide +kernel
theorem d_Bra_runsExtended_180 : decode b_Bra_runsExtended 180 = .ok (.iconst 1, 1) := by decide +kernel
theorem d_Bra_runsExtended_181 : decode b_Bra_runsExtended 181 = .ok (.ireturn, 1) := by decide +kernel
theorem d_Bra_runsExtended_182 : decode b_Bra_runsExtended 182 = .ok (.aload_n 0, 1) := by decide +kernel
theorem d_Bra_runsExtended_183 : decode b_Bra_runsExtended 183 = .ok (.getfield 9, 3) := by decide +kernel
theorem d_Bra_runsExtended_186 : decode b_Bra_runsExtended 186 = .ok (.aload_n 1, 1) := by decide +kernel
theorem d_Bra_runsExtended_187 : decode b_Bra_runsExtended 187 = .ok (.getfield 21, 3) := by decide +kernel
theorem d_Bra_runsExtended_190 : decode b_Bra_runsExtended 190 = .ok (.aload_n 0, 1) := by decide +kernel
theorem d_Bra_runsExtended_191 : decode b_Bra_runsExtended 191 = .ok (.getfield 9, 3) := by decide +kernel
theorem d_Bra_runsExtended_194 : decode b_Bra_runsExtended 194 = .ok (.aload_n 1, 1) := by decide +kernel
theorem d_Bra_runsExtended_195 : decode b_Bra_runsExtended 195 = .ok (.getfield 24, 3) := by decide +kernel
theorem d_Bra_runsExtended_198 : decode b_Bra_runsExtended 198 = .ok (.invokevirtual 60, 3) := by decide +kernel
theorem d_Bra_runsExtended_201 : decode b_Bra_runsExtended 201 = .ok (.aload_n 0, 1) := by decide +kernel
theorem d_Bra_runsExtended_202 : decode b_Bra_runsExtended 202 = .ok (.getfield 9, 3) := by decide +kernel
theorem d_Bra_runsExtended_205 : decode b_Bra_runsExtended 205 = .ok (.aload_n 1, 1) := by decide +kernel
theorem d_Bra_runsExtended_206 : decode b_Bra_runsExtended 206 = .ok (.getfield 63, 3) := by decide +kernel
theorem d_Bra_runsExtended_209 : decode b_Bra_runsExtended 209 = .ok (.invokevirtual 60, 3) := by decide +kernel
theorem d_Bra_runsExtended_212 : decode b_Bra_runsExtended 212 = .ok (.ior, 1) := by decide +kernel
theorem d_Bra_runsExtended_213 : decode b_Bra_runsExtended 213 = .ok (.invokevirtual 66, 3) := by decide +kernel
theorem d_Bra_runsExtended_216 : decode b_Bra_runsExtended 216 = .ok (.iconst 1, 1) := by decide +kernel
theorem d_Bra_runsExtended_217 : decode b_Bra_runsExtended 217 = .ok (.ireturn, 1) := by decide +kernel
theorem d_Bra_runsExtended_218 : decode b_Bra_runsExtended 218 = .ok (.aload_n 0, 1) := by decide +kernel
theorem d_Bra_runsExtended_219 : decode b_Bra_runsExtended 219 = .ok (.aload_n 1, 1) := by decide +kernel
theorem d_Bra_runsExtended_220 : decode b_Bra_runsExtended 220 = .ok (.aload_n 0, 1) := by decide +kernel
theorem d_Bra_runsExtended_221 : decode b_Bra_runsExtended 221 = .ok (.aload_n 1, 1) := by decide +kernel
theorem d_Bra_runsExtended_222 : decode b_Bra_runsExtended 222 = .ok (.getfield 21, 3) := by decide +kernel
theorem d_Bra_runsExtended_225 : decode b_Bra_runsExtended 225 = .ok (.iconst 4, 1) := by decide +kernel
theorem d_Bra_runsExtended_226 : decode b_Bra_runsExtended 226 = .ok (.ior, 1) := by decide +kernel
theorem d_Bra_runsExtended_227 : decode b_Bra_runsExtended 227 = .ok (.aload_n 1, 1) := by decide +kernel
theorem d_Bra_runsExtended_228 : decode b_Bra_runsExtended 228 = .ok (.getfield 24, 3) := by decide +kernel
theorem d_Bra_runsExtended_231 : decode b_Bra_runsExtended 231 = .ok (.invokevirtual 27, 3) := by decide +kernel
theorem d_Bra_runsExtended_234 : decode b_Bra_runsExtended 234 = .ok (.aload_n 0, 1) := by decide +kernel
theorem d_Bra_runsExtended_235 : decode b_Bra_runsExtended 235 = .ok (.getfield 9, 3) := by decide +kernel
theorem d_Bra_runsExtended_238 : decode b_Bra_runsExtended 238 = .ok (.iconst 5, 1) := by decide +kernel
theorem d_Bra_runsExtended_239 : decode b_Bra_runsExtended 239 = .ok (.invokevirtual 51, 3) := by decide +kernel
theorem d_Bra_runsExtended_242 : decode b_Bra_runsExtended 242 = .ok (.bipush (-4), 2) := by decide +kernel
theorem d_Bra_runsExtended_244 : decode b_Bra_runsExtended 244 = .ok (.iand, 1) := by decide +kernel
theorem d_Bra_runsExtended_245 : decode b_Bra_runsExtended 245 = .ok (.invokevirtual 38, 3) := by decide +kernel
theorem d_Bra_runsExtended_248 : decode b_Bra_runsExtended 248 = .ok (.iconst 1, 1) := by decide +kernel
theorem d_Bra_runsExtended_249 : decode b_Bra_runsExtended 249 = .ok (.ireturn, 1) := by decide +kernel
theorem d_Bra_runsExtended_250 : decode b_Bra_runsExtended 250 = .ok (.iconst 0, 1) := by decide +kernel
theorem d_Bra_runsExtended_251 : decode b_Bra_runsExtended 251 = .ok (.ireturn, 1) := by decide +kernel
def f_Bra_runsExtended (sp : Nat → Int32) (nx : Int32) (lt : Int32) (ex : Int32) (iw : Int32) (id : Int32) (ia : Int32) (ib : Int32) (ii : Int32) : Int32 × (Nat → Int32) × Int32 × Int32 × Int32 :=
  if ii = (16 : Int32) then
    let t2 := (f_Bra_taken id ia sp)
    let t3 := (f_Bra_branch t2.1 ((f_Sta_read (4 : Int32) t2.2) &&& (-4 : Int32)) t2.2 nx iw)
    ((1 : Int32), t3.1, t3.2, lt, ex)
  else
    if ii = (50 : Int32) then
      let t5 := (f_Bra_returnFromException sp nx lt ex)
      ((1 : Int32), t5.1, t5.2.1, t5.2.2.1, t5.2.2.2)
    else
      if ii = (150 : Int32) then
        ((1 : Int32), sp, nx, lt, ex)
      else
        if ii = (193 : Int32) then
          ((1 : Int32), (f_Sta_keepConditionBit id ((f_Sta_conditionBit ia sp) ^^^ (f_Sta_conditionBit ib sp)) sp), nx, lt, ex)
        else
          if ii = (257 : Int32) then
            ((1 : Int32), (f_Sta_keepConditionBit id ((f_Sta_conditionBit ia sp) &&& (f_Sta_conditionBit ib sp)) sp), nx, lt, ex)
          else
            if ii = (449 : Int32) then
              ((1 : Int32), (f_Sta_keepConditionBit id ((f_Sta_conditionBit ia sp) ||| (f_Sta_conditionBit ib sp)) sp), nx, lt, ex)
            else
              if ii = (528 : Int32) then
                let t11 := (f_Bra_taken (id ||| (4 : Int32)) ia sp)
                let t12 := (f_Bra_branch t11.1 ((f_Sta_read (5 : Int32) t11.2) &&& (-4 : Int32)) t11.2 nx iw)
                ((1 : Int32), t12.1, t12.2, lt, ex)
              else
                ((0 : Int32), sp, nx, lt, ex)
set_option maxHeartbeats 4000000 in
set_option maxRecDepth 100000 in
theorem ib_Bra_runsExtended (sp : Nat → Int32) (nx : Int32) (lt : Int32) (ex : Int32) (iw : Int32) (id : Int32) (ia : Int32) (ib : Int32) (ii : Int32) : isB (f_Bra_runsExtended sp nx lt ex iw id ia ib ii).1 := by
  unfold f_Bra_runsExtended
  try dsimp only
  repeat' (first | refine ib_ite ?_ ?_ | refine ib_ite0 ?_ ?_ | with_reducible exact ib0 | with_reducible exact ib1 | with_reducible exact ib_Bra_taken _ _ _ | (dsimp only; first | exact ib0 | exact ib1))
theorem nb_Bra_runsExtended (sp : Nat → Int32) (nx : Int32) (lt : Int32) (ex : Int32) (iw : Int32) (id : Int32) (ia : Int32) (ib : Int32) (ii : Int32) : narrow .boolean (.int (f_Bra_runsExtended sp nx lt ex iw id ia ib ii).1) = .int (f_Bra_runsExtended sp nx lt ex iw id ia ib ii).1 := nb_of (ib_Bra_runsExtended sp nx lt ex iw id ia ib ii)
set_option maxHeartbeats 4000000 in
set_option maxRecDepth 100000 in
theorem c_Bra_runsExtended (l : Launch) (D : va_G) (aS aG aX aI aB : Nat) (cG cX : ClassId) (g : Nat → Int32) (sp : Nat → Int32) (nx : Int32) (lt : Int32) (sm : Int32) (ex : Int32) (iw : Int32) (io : Int32) (id : Int32) (ia : Int32) (ib : Int32) (ii : Int32) (is : Int32) (iu : Int32) (_q0 : Nat) : kMi l y_Bra_runsExtended b_Bra_runsExtended 2 (some .boolean) 3 62 D kCl [(cG, .int), (cX, .int)] [.ref aB, .ref aI] [(aS, .inr (9, [.ref aG, .ref aX, .int nx, .int lt, .int sm, .int ex])), (aG, .inl (cG, 32, .inl g)), (aX, .inl (cX, 64, .inl sp)), (aI, .inr (5, [.int iw, .int io, .int id, .int ia, .int ib, .int ii, .int is, .int iu])), (aB, .inr (2, [.ref aS]))] (f_Bra_runsExtended sp nx lt ex iw id ia ib ii).1 [(aS, .inr (9, [.ref aG, .ref aX, .int (f_Bra_runsExtended sp nx lt ex iw id ia ib ii).2.2.1, .int (f_Bra_runsExtended sp nx lt ex iw id ia ib ii).2.2.2.1, .int sm, .int (f_Bra_runsExtended sp nx lt ex iw id ia ib ii).2.2.2.2])), (aG, .inl (cG, 32, .inl g)), (aX, .inl (cX, 64, .inl (f_Bra_runsExtended sp nx lt ex iw id ia ib ii).2.1)), (aI, .inr (5, [.int iw, .int io, .int id, .int ia, .int ib, .int ii, .int is, .int iu])), (aB, .inr (2, [.ref aS]))] := by
  refine k_entry (Qc := fun A => kQi D kCl [(cG, .int), (cX, .int)] (f_Bra_runsExtended sp nx lt ex iw id ia ib ii).1 [(aS, .inr (9, [.ref aG, .ref aX, .int (f_Bra_runsExtended sp nx lt ex iw id ia ib ii).2.2.1, .int (f_Bra_runsExtended sp nx lt ex iw id ia ib ii).2.2.2.1, .int sm, .int (f_Bra_runsExtended sp nx lt ex iw id ia ib ii).2.2.2.2])), (aG, .inl (cG, 32, .inl g)), (aX, .inl (cX, 64, .inl (f_Bra_runsExtended sp nx lt ex iw id ia ib ii).2.1)), (aI, .inr (5, [.int iw, .int io, .int id, .int ia, .int ib, .int ii, .int is, .int iu])), (aB, .inr (2, [.ref aS]))] A) (lv := [(0, .ref aB), (1, .ref aI)]) (by decide) (Nat.le_of_ble_eq_true rfl) rfl ?_
  intro p e s m below meth c A ls hx hb hr hml hB hown hlocks hin hA hK hN hP hD hS hl
  have hown : s.vm.findClass "MappedProcessor$Branches" = some m.cls := hown
  refine lv_aload_n hx hb d_Bra_runsExtended_0 rfl (lv_at hl 1 rfl) ?_
  refine va_get (D := D) (ci := 5) (v := .int ii) (C := "MappedProcessor$Instruction") (T := T_Ins) (N := 8) hx hb hB iw_Ins hown hK hP 3 rfl rfl 5 (by decide) (hB _ mw_113) (fun _ h9 => h9) rfl d_Bra_runsExtended_1 ?_
  by_cases h1 : ii = (16 : Int32)
  · refine lv_lookup (off := 68) (tgt := 72) hx hb d_Bra_runsExtended_4 (by decide) (by have hq9 := h1 <;> rw [hq9] <;> rfl) (by decide) ?_
    refine lv_aload_n hx hb d_Bra_runsExtended_72 rfl (lv_at hl 0 rfl) ?_
    refine lv_aload_n hx hb d_Bra_runsExtended_73 rfl (lv_at hl 1 rfl) ?_
    refine lv_aload_n hx hb d_Bra_runsExtended_74 rfl (lv_at hl 0 rfl) ?_
    refine lv_aload_n hx hb d_Bra_runsExtended_75 rfl (lv_at hl 1 rfl) ?_
    refine va_get (D := D) (ci := 5) (v := .int id) (C := "MappedProcessor$Instruction") (T := T_Ins) (N := 8) hx hb hB iw_Ins hown hK hP 3 rfl rfl 2 (by decide) (hB _ mw_92) (fun _ h9 => h9) rfl d_Bra_runsExtended_76 ?_
    refine lv_aload_n hx hb d_Bra_runsExtended_79 rfl (lv_at hl 1 rfl) ?_
    refine va_get (D := D) (ci := 5) (v := .int ia) (C := "MappedProcessor$Instruction") (T := T_Ins) (N := 8) hx hb hB iw_Ins hown hK hP 3 rfl rfl 3 (by decide) (hB _ mw_101) (fun _ h9 => h9) rfl d_Bra_runsExtended_80 ?_
    let t2 := (f_Bra_taken id ia sp)
    refine k_cVi (As := [.int id, .int ia]) (rest := [.ref aI, .ref aB]) (wr := [(aI, .inr (5, [.int iw, .int io, .int id, .int ia, .int ib, .int ii, .int is, .int iu]))]) (wj := [(aS, .inr (9, [.ref aG, .ref aX, .int nx, .int lt, .int sm, .int ex])), (aG, .inl (cG, 32, .inl g)), (aX, .inl (cX, 64, .inl t2.2)), (aI, .inr (5, [.int iw, .int io, .int id, .int ia, .int ib, .int ii, .int is, .int iu])), (aB, .inr (2, [.ref aS]))]) ⟨hx, hb, hml, hown, hB⟩ (c_Bra_taken l D aS aG aX aB cG cX g sp nx lt sm ex id ia) yl_Bra_taken mw_428 hK hN hP hD hS hA [0, 1] [0, 1, 2, 4] [3] [1, 2, 3, 0, 4] rfl rfl rfl rfl (by decide +kernel) 3 rfl rfl rfl rfl hl.1 rfl (Nat.le_of_ble_eq_true rfl) ⟨Nat.le_of_ble_eq_true rfl, Nat.le_of_ble_eq_true rfl⟩ d_Bra_runsExtended_83 ⟨Nat.le_of_ble_eq_true rfl, Nat.le_of_ble_eq_true rfl⟩ (fun H locs hP hD hS => ?_)
    refine lv_aload_n hx hb d_Bra_runsExtended_86 rfl (lv_at hl 0 rfl) ?_
    refine va_get (D := D) (ci := 2) (v := .ref aS) (C := "MappedProcessor$Branches") (T := T_Bra) (N := 1) hx hb hB iw_Bra hown hK hP 4 rfl rfl 0 (by decide) (hB _ mw_179) (fun _ h9 => h9) rfl d_Bra_runsExtended_87 ?_
    refine lv_iconst (v := (4 : Int32)) hx hb d_Bra_runsExtended_90 (by decide) ?_
    refine k_cVi (As := [.int (4 : Int32)]) (rest := [.int t2.1, .ref aI, .ref aB]) (wr := [(aI, .inr (5, [.int iw, .int io, .int id, .int ia, .int ib, .int ii, .int is, .int iu])), (aB, .inr (2, [.ref aS]))]) (wj := [(aS, .inr (9, [.ref aG, .ref aX, .int nx, .int lt, .int sm, .int ex])), (aG, .inl (cG, 32, .inl g)), (aX, .inl (cX, 64, .inl t2.2)), (aI, .inr (5, [.int iw, .int io, .int id, .int ia, .int ib, .int ii, .int is, .int iu])), (aB, .inr (2, [.ref aS]))]) ⟨hx, hb, hml, hown, hB⟩ (c_Sta_read l D aS aG aX cG cX g t2.2 nx lt sm ex (4 : Int32)) yl_Sta_read mw_432 hK hN hP hD hS hA [0, 1] [0, 1, 2] [3, 4] [2, 3, 4, 0, 1] rfl rfl rfl rfl (by decide +kernel) 0 rfl rfl rfl rfl hl.1 rfl (Nat.le_of_ble_eq_true rfl) ⟨Nat.le_of_ble_eq_true rfl, Nat.le_of_ble_eq_true rfl⟩ d_Bra_runsExtended_91 ⟨Nat.le_of_ble_eq_true rfl, Nat.le_of_ble_eq_true rfl⟩ (fun H locs hP hD hS => ?_)
    refine lv_bipush (v := (-4 : Int32)) hx hb d_Bra_runsExtended_94 (by decide) ?_
    refine lv_iand hx hb d_Bra_runsExtended_96 ?_
    let t3 := (f_Bra_branch t2.1 ((f_Sta_read (4 : Int32) t2.2) &&& (-4 : Int32)) t2.2 nx iw)
    refine k_cVv (As := [.ref aI, .int t2.1, .int ((f_Sta_read (4 : Int32) t2.2) &&& (-4 : Int32))]) (rest := []) (wr := []) (wj := [(aS, .inr (9, [.ref aG, .ref aX, .int t3.2, .int lt, .int sm, .int ex])), (aG, .inl (cG, 32, .inl g)), (aX, .inl (cX, 64, .inl t3.1)), (aI, .inr (5, [.int iw, .int io, .int id, .int ia, .int ib, .int ii, .int is, .int iu])), (aB, .inr (2, [.ref aS]))]) ⟨hx, hb, hml, hown, hB⟩ (c_Bra_branch l D aS aG aX aI aB cG cX g t2.2 nx lt sm ex iw io id ia ib ii is iu aI t2.1 ((f_Sta_read (4 : Int32) t2.2) &&& (-4 : Int32))) yl_Bra_branch mw_446 hK hN hP hD hS hA [0, 1] [0, 1, 2, 3, 4] [] [0, 1, 2, 3, 4] rfl rfl rfl rfl (by decide +kernel) 4 rfl rfl rfl rfl hl.1 rfl (Nat.le_of_ble_eq_true rfl) ⟨Nat.le_of_ble_eq_true rfl, Nat.le_of_ble_eq_true rfl⟩ d_Bra_runsExtended_97 ⟨Nat.le_of_ble_eq_true rfl, Nat.le_of_ble_eq_true rfl⟩ (fun H locs hP hD hS => ?_)
    refine lv_iconst (v := (1 : Int32)) hx hb d_Bra_runsExtended_100 (by decide) ?_
    have ef : f_Bra_runsExtended sp nx lt ex iw id ia ib ii = ((1 : Int32), t3.1, t3.2, lt, ex) := by unfold f_Bra_runsExtended; try dsimp only; rw [if_pos h1]
    exact k_zret hx hb hr hlocks hK hP hD hS [0, 1, 2, 3, 4] rfl (by rw [ef] <;> rfl) (by rw [ef] <;> rfl) nb1 d_Bra_runsExtended_101
  · by_cases h4 : ii = (50 : Int32)
    · refine lv_lookup (off := 98) (tgt := 102) hx hb d_Bra_runsExtended_4 (by decide) (by have hq9 := h4 <;> rw [hq9] <;> rfl) (by decide) ?_
      refine lv_aload_n hx hb d_Bra_runsExtended_102 rfl (lv_at hl 0 rfl) ?_
      let t5 := (f_Bra_returnFromException sp nx lt ex)
      refine k_cVv (As := []) (rest := []) (wr := [(aI, .inr (5, [.int iw, .int io, .int id, .int ia, .int ib, .int ii, .int is, .int iu]))]) (wj := [(aS, .inr (9, [.ref aG, .ref aX, .int t5.2.1, .int t5.2.2.1, .int sm, .int t5.2.2.2])), (aG, .inl (cG, 32, .inl g)), (aX, .inl (cX, 64, .inl t5.1)), (aI, .inr (5, [.int iw, .int io, .int id, .int ia, .int ib, .int ii, .int is, .int iu])), (aB, .inr (2, [.ref aS]))]) ⟨hx, hb, hml, hown, hB⟩ (c_Bra_returnFromException l D aS aG aX aB cG cX g sp nx lt sm ex) yl_Bra_returnFromException mw_463 hK hN hP hD hS hA [0, 1] [0, 1, 2, 4] [3] [1, 2, 3, 0, 4] rfl rfl rfl rfl (by decide +kernel) 3 rfl rfl rfl rfl hl.1 rfl (Nat.le_of_ble_eq_true rfl) ⟨Nat.le_of_ble_eq_true rfl, Nat.le_of_ble_eq_true rfl⟩ d_Bra_runsExtended_103 ⟨Nat.le_of_ble_eq_true rfl, Nat.le_of_ble_eq_true rfl⟩ (fun H locs hP hD hS => ?_)
      refine lv_iconst (v := (1 : Int32)) hx hb d_Bra_runsExtended_106 (by decide) ?_
      have ef : f_Bra_runsExtended sp nx lt ex iw id ia ib ii = ((1 : Int32), t5.1, t5.2.1, t5.2.2.1, t5.2.2.2) := by unfold f_Bra_runsExtended; try dsimp only; rw [if_neg h1, if_pos h4]
      exact k_zret hx hb hr hlocks hK hP hD hS [0, 1, 2, 3, 4] rfl (by rw [ef] <;> rfl) (by rw [ef] <;> rfl) nb1 d_Bra_runsExtended_107
    · by_cases h6 : ii = (150 : Int32)
      · refine lv_lookup (off := 104) (tgt := 108) hx hb d_Bra_runsExtended_4 (by decide) (by have hq9 := h6 <;> rw [hq9] <;> rfl) (by decide) ?_
        refine lv_iconst (v := (1 : Int32)) hx hb d_Bra_runsExtended_108 (by decide) ?_
        have ef : f_Bra_runsExtended sp nx lt ex iw id ia ib ii = ((1 : Int32), sp, nx, lt, ex) := by unfold f_Bra_runsExtended; try dsimp only; rw [if_neg h1, if_neg h4, if_pos h6]
        exact k_zret hx hb hr hlocks hK hP hD hS [0, 1, 2, 3, 4] rfl (by rw [ef] <;> rfl) (by rw [ef] <;> rfl) nb1 d_Bra_runsExtended_109
      · by_cases h7 : ii = (193 : Int32)
        · refine lv_lookup (off := 106) (tgt := 110) hx hb d_Bra_runsExtended_4 (by decide) (by have hq9 := h7 <;> rw [hq9] <;> rfl) (by decide) ?_
          refine lv_aload_n hx hb d_Bra_runsExtended_110 rfl (lv_at hl 0 rfl) ?_
          refine va_get (D := D) (ci := 2) (v := .ref aS) (C := "MappedProcessor$Branches") (T := T_Bra) (N := 1) hx hb hB iw_Bra hown hK hP 4 rfl rfl 0 (by decide) (hB _ mw_179) (fun _ h9 => h9) rfl d_Bra_runsExtended_111 ?_
          refine lv_aload_n hx hb d_Bra_runsExtended_114 rfl (lv_at hl 1 rfl) ?_
          refine va_get (D := D) (ci := 5) (v := .int id) (C := "MappedProcessor$Instruction") (T := T_Ins) (N := 8) hx hb hB iw_Ins hown hK hP 3 rfl rfl 2 (by decide) (hB _ mw_92) (fun _ h9 => h9) rfl d_Bra_runsExtended_115 ?_
          refine lv_aload_n hx hb d_Bra_runsExtended_118 rfl (lv_at hl 0 rfl) ?_
          refine va_get (D := D) (ci := 2) (v := .ref aS) (C := "MappedProcessor$Branches") (T := T_Bra) (N := 1) hx hb hB iw_Bra hown hK hP 4 rfl rfl 0 (by decide) (hB _ mw_179) (fun _ h9 => h9) rfl d_Bra_runsExtended_119 ?_
          refine lv_aload_n hx hb d_Bra_runsExtended_122 rfl (lv_at hl 1 rfl) ?_
          refine va_get (D := D) (ci := 5) (v := .int ia) (C := "MappedProcessor$Instruction") (T := T_Ins) (N := 8) hx hb hB iw_Ins hown hK hP 3 rfl rfl 3 (by decide) (hB _ mw_101) (fun _ h9 => h9) rfl d_Bra_runsExtended_123 ?_
          refine k_cVi (As := [.int ia]) (rest := [.int id, .ref aS]) (wr := [(aI, .inr (5, [.int iw, .int io, .int id, .int ia, .int ib, .int ii, .int is, .int iu])), (aB, .inr (2, [.ref aS]))]) (wj := [(aS, .inr (9, [.ref aG, .ref aX, .int nx, .int lt, .int sm, .int ex])), (aG, .inl (cG, 32, .inl g)), (aX, .inl (cX, 64, .inl sp)), (aI, .inr (5, [.int iw, .int io, .int id, .int ia, .int ib, .int ii, .int is, .int iu])), (aB, .inr (2, [.ref aS]))]) ⟨hx, hb, hml, hown, hB⟩ (c_Sta_conditionBit l D aS aG aX cG cX g sp nx lt sm ex ia) yl_Sta_conditionBit mw_434 hK hN hP hD hS hA [0, 1] [0, 1, 2] [3, 4] [2, 3, 4, 0, 1] rfl rfl rfl rfl (by decide +kernel) 0 rfl rfl rfl rfl hl.1 rfl (Nat.le_of_ble_eq_true rfl) ⟨Nat.le_of_ble_eq_true rfl, Nat.le_of_ble_eq_true rfl⟩ d_Bra_runsExtended_126 ⟨Nat.le_of_ble_eq_true rfl, Nat.le_of_ble_eq_true rfl⟩ (fun H locs hP hD hS => ?_)
          refine lv_aload_n hx hb d_Bra_runsExtended_129 rfl (lv_at hl 0 rfl) ?_
          refine va_get (D := D) (ci := 2) (v := .ref aS) (C := "MappedProcessor$Branches") (T := T_Bra) (N := 1) hx hb hB iw_Bra hown hK hP 4 rfl rfl 0 (by decide) (hB _ mw_179) (fun _ h9 => h9) rfl d_Bra_runsExtended_130 ?_
          refine lv_aload_n hx hb d_Bra_runsExtended_133 rfl (lv_at hl 1 rfl) ?_
          refine va_get (D := D) (ci := 5) (v := .int ib) (C := "MappedProcessor$Instruction") (T := T_Ins) (N := 8) hx hb hB iw_Ins hown hK hP 3 rfl rfl 4 (by decide) (hB _ mw_109) (fun _ h9 => h9) rfl d_Bra_runsExtended_134 ?_
          refine k_cVi (As := [.int ib]) (rest := [.int (f_Sta_conditionBit ia sp), .int id, .ref aS]) (wr := [(aI, .inr (5, [.int iw, .int io, .int id, .int ia, .int ib, .int ii, .int is, .int iu])), (aB, .inr (2, [.ref aS]))]) (wj := [(aS, .inr (9, [.ref aG, .ref aX, .int nx, .int lt, .int sm, .int ex])), (aG, .inl (cG, 32, .inl g)), (aX, .inl (cX, 64, .inl sp)), (aI, .inr (5, [.int iw, .int io, .int id, .int ia, .int ib, .int ii, .int is, .int iu])), (aB, .inr (2, [.ref aS]))]) ⟨hx, hb, hml, hown, hB⟩ (c_Sta_conditionBit l D aS aG aX cG cX g sp nx lt sm ex ib) yl_Sta_conditionBit mw_434 hK hN hP hD hS hA [0, 1] [0, 1, 2] [3, 4] [2, 3, 4, 0, 1] rfl rfl rfl rfl (by decide +kernel) 0 rfl rfl rfl rfl hl.1 rfl (Nat.le_of_ble_eq_true rfl) ⟨Nat.le_of_ble_eq_true rfl, Nat.le_of_ble_eq_true rfl⟩ d_Bra_runsExtended_137 ⟨Nat.le_of_ble_eq_true rfl, Nat.le_of_ble_eq_true rfl⟩ (fun H locs hP hD hS => ?_)
          refine lv_ixor hx hb d_Bra_runsExtended_140 ?_
          refine k_cVv (As := [.int id, .int ((f_Sta_conditionBit ia sp) ^^^ (f_Sta_conditionBit ib sp))]) (rest := []) (wr := [(aI, .inr (5, [.int iw, .int io, .int id, .int ia, .int ib, .int ii, .int is, .int iu])), (aB, .inr (2, [.ref aS]))]) (wj := [(aS, .inr (9, [.ref aG, .ref aX, .int nx, .int lt, .int sm, .int ex])), (aG, .inl (cG, 32, .inl g)), (aX, .inl (cX, 64, .inl (f_Sta_keepConditionBit id ((f_Sta_conditionBit ia sp) ^^^ (f_Sta_conditionBit ib sp)) sp))), (aI, .inr (5, [.int iw, .int io, .int id, .int ia, .int ib, .int ii, .int is, .int iu])), (aB, .inr (2, [.ref aS]))]) ⟨hx, hb, hml, hown, hB⟩ (c_Sta_keepConditionBit l D aS aG aX cG cX g sp nx lt sm ex id ((f_Sta_conditionBit ia sp) ^^^ (f_Sta_conditionBit ib sp))) yl_Sta_keepConditionBit mw_475 hK hN hP hD hS hA [0, 1] [0, 1, 2] [3, 4] [2, 3, 4, 0, 1] rfl rfl rfl rfl (by decide +kernel) 0 rfl rfl rfl rfl hl.1 rfl (Nat.le_of_ble_eq_true rfl) ⟨Nat.le_of_ble_eq_true rfl, Nat.le_of_ble_eq_true rfl⟩ d_Bra_runsExtended_141 ⟨Nat.le_of_ble_eq_true rfl, Nat.le_of_ble_eq_true rfl⟩ (fun H locs hP hD hS => ?_)
          refine lv_iconst (v := (1 : Int32)) hx hb d_Bra_runsExtended_144 (by decide) ?_
          have ef : f_Bra_runsExtended sp nx lt ex iw id ia ib ii = ((1 : Int32), (f_Sta_keepConditionBit id ((f_Sta_conditionBit ia sp) ^^^ (f_Sta_conditionBit ib sp)) sp), nx, lt, ex) := by unfold f_Bra_runsExtended; try dsimp only; rw [if_neg h1, if_neg h4, if_neg h6, if_pos h7]
          exact k_zret hx hb hr hlocks hK hP hD hS [0, 1, 2, 3, 4] rfl (by rw [ef] <;> rfl) (by rw [ef] <;> rfl) nb1 d_Bra_runsExtended_145
        · by_cases h8 : ii = (257 : Int32)
          · refine lv_lookup (off := 142) (tgt := 146) hx hb d_Bra_runsExtended_4 (by decide) (by have hq9 := h8 <;> rw [hq9] <;> rfl) (by decide) ?_
            refine lv_aload_n hx hb d_Bra_runsExtended_146 rfl (lv_at hl 0 rfl) ?_
            refine va_get (D := D) (ci := 2) (v := .ref aS) (C := "MappedProcessor$Branches") (T := T_Bra) (N := 1) hx hb hB iw_Bra hown hK hP 4 rfl rfl 0 (by decide) (hB _ mw_179) (fun _ h9 => h9) rfl d_Bra_runsExtended_147 ?_
            refine lv_aload_n hx hb d_Bra_runsExtended_150 rfl (lv_at hl 1 rfl) ?_
            refine va_get (D := D) (ci := 5) (v := .int id) (C := "MappedProcessor$Instruction") (T := T_Ins) (N := 8) hx hb hB iw_Ins hown hK hP 3 rfl rfl 2 (by decide) (hB _ mw_92) (fun _ h9 => h9) rfl d_Bra_runsExtended_151 ?_
            refine lv_aload_n hx hb d_Bra_runsExtended_154 rfl (lv_at hl 0 rfl) ?_
            refine va_get (D := D) (ci := 2) (v := .ref aS) (C := "MappedProcessor$Branches") (T := T_Bra) (N := 1) hx hb hB iw_Bra hown hK hP 4 rfl rfl 0 (by decide) (hB _ mw_179) (fun _ h9 => h9) rfl d_Bra_runsExtended_155 ?_
            refine lv_aload_n hx hb d_Bra_runsExtended_158 rfl (lv_at hl 1 rfl) ?_
            refine va_get (D := D) (ci := 5) (v := .int ia) (C := "MappedProcessor$Instruction") (T := T_Ins) (N := 8) hx hb hB iw_Ins hown hK hP 3 rfl rfl 3 (by decide) (hB _ mw_101) (fun _ h9 => h9) rfl d_Bra_runsExtended_159 ?_
            refine k_cVi (As := [.int ia]) (rest := [.int id, .ref aS]) (wr := [(aI, .inr (5, [.int iw, .int io, .int id, .int ia, .int ib, .int ii, .int is, .int iu])), (aB, .inr (2, [.ref aS]))]) (wj := [(aS, .inr (9, [.ref aG, .ref aX, .int nx, .int lt, .int sm, .int ex])), (aG, .inl (cG, 32, .inl g)), (aX, .inl (cX, 64, .inl sp)), (aI, .inr (5, [.int iw, .int io, .int id, .int ia, .int ib, .int ii, .int is, .int iu])), (aB, .inr (2, [.ref aS]))]) ⟨hx, hb, hml, hown, hB⟩ (c_Sta_conditionBit l D aS aG aX cG cX g sp nx lt sm ex ia) yl_Sta_conditionBit mw_434 hK hN hP hD hS hA [0, 1] [0, 1, 2] [3, 4] [2, 3, 4, 0, 1] rfl rfl rfl rfl (by decide +kernel) 0 rfl rfl rfl rfl hl.1 rfl (Nat.le_of_ble_eq_true rfl) ⟨Nat.le_of_ble_eq_true rfl, Nat.le_of_ble_eq_true rfl⟩ d_Bra_runsExtended_162 ⟨Nat.le_of_ble_eq_true rfl, Nat.le_of_ble_eq_true rfl⟩ (fun H locs hP hD hS => ?_)
            refine lv_aload_n hx hb d_Bra_runsExtended_165 rfl (lv_at hl 0 rfl) ?_
            refine va_get (D := D) (ci := 2) (v := .ref aS) (C := "MappedProcessor$Branches") (T := T_Bra) (N := 1) hx hb hB iw_Bra hown hK hP 4 rfl rfl 0 (by decide) (hB _ mw_179) (fun _ h9 => h9) rfl d_Bra_runsExtended_166 ?_
            refine lv_aload_n hx hb d_Bra_runsExtended_169 rfl (lv_at hl 1 rfl) ?_
            refine va_get (D := D) (ci := 5) (v := .int ib) (C := "MappedProcessor$Instruction") (T := T_Ins) (N := 8) hx hb hB iw_Ins hown hK hP 3 rfl rfl 4 (by decide) (hB _ mw_109) (fun _ h9 => h9) rfl d_Bra_runsExtended_170 ?_
            refine k_cVi (As := [.int ib]) (rest := [.int (f_Sta_conditionBit ia sp), .int id, .ref aS]) (wr := [(aI, .inr (5, [.int iw, .int io, .int id, .int ia, .int ib, .int ii, .int is, .int iu])), (aB, .inr (2, [.ref aS]))]) (wj := [(aS, .inr (9, [.ref aG, .ref aX, .int nx, .int lt, .int sm, .int ex])), (aG, .inl (cG, 32, .inl g)), (aX, .inl (cX, 64, .inl sp)), (aI, .inr (5, [.int iw, .int io, .int id, .int ia, .int ib, .int ii, .int is, .int iu])), (aB, .inr (2, [.ref aS]))]) ⟨hx, hb, hml, hown, hB⟩ (c_Sta_conditionBit l D aS aG aX cG cX g sp nx lt sm ex ib) yl_Sta_conditionBit mw_434 hK hN hP hD hS hA [0, 1] [0, 1, 2] [3, 4] [2, 3, 4, 0, 1] rfl rfl rfl rfl (by decide +kernel) 0 rfl rfl rfl rfl hl.1 rfl (Nat.le_of_ble_eq_true rfl) ⟨Nat.le_of_ble_eq_true rfl, Nat.le_of_ble_eq_true rfl⟩ d_Bra_runsExtended_173 ⟨Nat.le_of_ble_eq_true rfl, Nat.le_of_ble_eq_true rfl⟩ (fun H locs hP hD hS => ?_)
            refine lv_iand hx hb d_Bra_runsExtended_176 ?_
            refine k_cVv (As := [.int id, .int ((f_Sta_conditionBit ia sp) &&& (f_Sta_conditionBit ib sp))]) (rest := []) (wr := [(aI, .inr (5, [.int iw, .int io, .int id, .int ia, .int ib, .int ii, .int is, .int iu])), (aB, .inr (2, [.ref aS]))]) (wj := [(aS, .inr (9, [.ref aG, .ref aX, .int nx, .int lt, .int sm, .int ex])), (aG, .inl (cG, 32, .inl g)), (aX, .inl (cX, 64, .inl (f_Sta_keepConditionBit id ((f_Sta_conditionBit ia sp) &&& (f_Sta_conditionBit ib sp)) sp))), (aI, .inr (5, [.int iw, .int io, .int id, .int ia, .int ib, .int ii, .int is, .int iu])), (aB, .inr (2, [.ref aS]))]) ⟨hx, hb, hml, hown, hB⟩ (c_Sta_keepConditionBit l D aS aG aX cG cX g sp nx lt sm ex id ((f_Sta_conditionBit ia sp) &&& (f_Sta_conditionBit ib sp))) yl_Sta_keepConditionBit mw_475 hK hN hP hD hS hA [0, 1] [0, 1, 2] [3, 4] [2, 3, 4, 0, 1] rfl rfl rfl rfl (by decide +kernel) 0 rfl rfl rfl rfl hl.1 rfl (Nat.le_of_ble_eq_true rfl) ⟨Nat.le_of_ble_eq_true rfl, Nat.le_of_ble_eq_true rfl⟩ d_Bra_runsExtended_177 ⟨Nat.le_of_ble_eq_true rfl, Nat.le_of_ble_eq_true rfl⟩ (fun H locs hP hD hS => ?_)
            refine lv_iconst (v := (1 : Int32)) hx hb d_Bra_runsExtended_180 (by decide) ?_
            have ef : f_Bra_runsExtended sp nx lt ex iw id ia ib ii = ((1 : Int32), (f_Sta_keepConditionBit id ((f_Sta_conditionBit ia sp) &&& (f_Sta_conditionBit ib sp)) sp), nx, lt, ex) := by unfold f_Bra_runsExtended; try dsimp only; rw [if_neg h1, if_neg h4, if_neg h6, if_neg h7, if_pos h8]
            exact k_zret hx hb hr hlocks hK hP hD hS [0, 1, 2, 3, 4] rfl (by rw [ef] <;> rfl) (by rw [ef] <;> rfl) nb1 d_Bra_runsExtended_181
          · by_cases h9 : ii = (449 : Int32)
            · refine lv_lookup (off := 178) (tgt := 182) hx hb d_Bra_runsExtended_4 (by decide) (by have hq9 := h9 <;> rw [hq9] <;> rfl) (by decide) ?_
              refine lv_aload_n hx hb d_Bra_runsExtended_182 rfl (lv_at hl 0 rfl) ?_
              refine va_get (D := D) (ci := 2) (v := .ref aS) (C := "MappedProcessor$Branches") (T := T_Bra) (N := 1) hx hb hB iw_Bra hown hK hP 4 rfl rfl 0 (by decide) (hB _ mw_179) (fun _ h9 => h9) rfl d_Bra_runsExtended_183 ?_
              refine lv_aload_n hx hb d_Bra_runsExtended_186 rfl (lv_at hl 1 rfl) ?_
              refine va_get (D := D) (ci := 5) (v := .int id) (C := "MappedProcessor$Instruction") (T := T_Ins) (N := 8) hx hb hB iw_Ins hown hK hP 3 rfl rfl 2 (by decide) (hB _ mw_92) (fun _ h9 => h9) rfl d_Bra_runsExtended_187 ?_
              refine lv_aload_n hx hb d_Bra_runsExtended_190 rfl (lv_at hl 0 rfl) ?_
              refine va_get (D := D) (ci := 2) (v := .ref aS) (C := "MappedProcessor$Branches") (T := T_Bra) (N := 1) hx hb hB iw_Bra hown hK hP 4 rfl rfl 0 (by decide) (hB _ mw_179) (fun _ h9 => h9) rfl d_Bra_runsExtended_191 ?_
              refine lv_aload_n hx hb d_Bra_runsExtended_194 rfl (lv_at hl 1 rfl) ?_
              refine va_get (D := D) (ci := 5) (v := .int ia) (C := "MappedProcessor$Instruction") (T := T_Ins) (N := 8) hx hb hB iw_Ins hown hK hP 3 rfl rfl 3 (by decide) (hB _ mw_101) (fun _ h9 => h9) rfl d_Bra_runsExtended_195 ?_
              refine k_cVi (As := [.int ia]) (rest := [.int id, .ref aS]) (wr := [(aI, .inr (5, [.int iw, .int io, .int id, .int ia, .int ib, .int ii, .int is, .int iu])), (aB, .inr (2, [.ref aS]))]) (wj := [(aS, .inr (9, [.ref aG, .ref aX, .int nx, .int lt, .int sm, .int ex])), (aG, .inl (cG, 32, .inl g)), (aX, .inl (cX, 64, .inl sp)), (aI, .inr (5, [.int iw, .int io, .int id, .int ia, .int ib, .int ii, .int is, .int iu])), (aB, .inr (2, [.ref aS]))]) ⟨hx, hb, hml, hown, hB⟩ (c_Sta_conditionBit l D aS aG aX cG cX g sp nx lt sm ex ia) yl_Sta_conditionBit mw_434 hK hN hP hD hS hA [0, 1] [0, 1, 2] [3, 4] [2, 3, 4, 0, 1] rfl rfl rfl rfl (by decide +kernel) 0 rfl rfl rfl rfl hl.1 rfl (Nat.le_of_ble_eq_true rfl) ⟨Nat.le_of_ble_eq_true rfl, Nat.le_of_ble_eq_true rfl⟩ d_Bra_runsExtended_198 ⟨Nat.le_of_ble_eq_true rfl, Nat.le_of_ble_eq_true rfl⟩ (fun H locs hP hD hS => ?_)
              refine lv_aload_n hx hb d_Bra_runsExtended_201 rfl (lv_at hl 0 rfl) ?_
              refine va_get (D := D) (ci := 2) (v := .ref aS) (C := "MappedProcessor$Branches") (T := T_Bra) (N := 1) hx hb hB iw_Bra hown hK hP 4 rfl rfl 0 (by decide) (hB _ mw_179) (fun _ h9 => h9) rfl d_Bra_runsExtended_202 ?_
              refine lv_aload_n hx hb d_Bra_runsExtended_205 rfl (lv_at hl 1 rfl) ?_
              refine va_get (D := D) (ci := 5) (v := .int ib) (C := "MappedProcessor$Instruction") (T := T_Ins) (N := 8) hx hb hB iw_Ins hown hK hP 3 rfl rfl 4 (by decide) (hB _ mw_109) (fun _ h9 => h9) rfl d_Bra_runsExtended_206 ?_
              refine k_cVi (As := [.int ib]) (rest := [.int (f_Sta_conditionBit ia sp), .int id, .ref aS]) (wr := [(aI, .inr (5, [.int iw, .int io, .int id, .int ia, .int ib, .int ii, .int is, .int iu])), (aB, .inr (2, [.ref aS]))]) (wj := [(aS, .inr (9, [.ref aG, .ref aX, .int nx, .int lt, .int sm, .int ex])), (aG, .inl (cG, 32, .inl g)), (aX, .inl (cX, 64, .inl sp)), (aI, .inr (5, [.int iw, .int io, .int id, .int ia, .int ib, .int ii, .int is, .int iu])), (aB, .inr (2, [.ref aS]))]) ⟨hx, hb, hml, hown, hB⟩ (c_Sta_conditionBit l D aS aG aX cG cX g sp nx lt sm ex ib) yl_Sta_conditionBit mw_434 hK hN hP hD hS hA [0, 1] [0, 1, 2] [3, 4] [2, 3, 4, 0, 1] rfl rfl rfl rfl (by decide +kernel) 0 rfl rfl rfl rfl hl.1 rfl (Nat.le_of_ble_eq_true rfl) ⟨Nat.le_of_ble_eq_true rfl, Nat.le_of_ble_eq_true rfl⟩ d_Bra_runsExtended_209 ⟨Nat.le_of_ble_eq_true rfl, Nat.le_of_ble_eq_true rfl⟩ (fun H locs hP hD hS => ?_)
              refine lv_ior hx hb d_Bra_runsExtended_212 ?_
              refine k_cVv (As := [.int id, .int ((f_Sta_conditionBit ia sp) ||| (f_Sta_conditionBit ib sp))]) (rest := []) (wr := [(aI, .inr (5, [.int iw, .int io, .int id, .int ia, .int ib, .int ii, .int is, .int iu])), (aB, .inr (2, [.ref aS]))]) (wj := [(aS, .inr (9, [.ref aG, .ref aX, .int nx, .int lt, .int sm, .int ex])), (aG, .inl (cG, 32, .inl g)), (aX, .inl (cX, 64, .inl (f_Sta_keepConditionBit id ((f_Sta_conditionBit ia sp) ||| (f_Sta_conditionBit ib sp)) sp))), (aI, .inr (5, [.int iw, .int io, .int id, .int ia, .int ib, .int ii, .int is, .int iu])), (aB, .inr (2, [.ref aS]))]) ⟨hx, hb, hml, hown, hB⟩ (c_Sta_keepConditionBit l D aS aG aX cG cX g sp nx lt sm ex id ((f_Sta_conditionBit ia sp) ||| (f_Sta_conditionBit ib sp))) yl_Sta_keepConditionBit mw_475 hK hN hP hD hS hA [0, 1] [0, 1, 2] [3, 4] [2, 3, 4, 0, 1] rfl rfl rfl rfl (by decide +kernel) 0 rfl rfl rfl rfl hl.1 rfl (Nat.le_of_ble_eq_true rfl) ⟨Nat.le_of_ble_eq_true rfl, Nat.le_of_ble_eq_true rfl⟩ d_Bra_runsExtended_213 ⟨Nat.le_of_ble_eq_true rfl, Nat.le_of_ble_eq_true rfl⟩ (fun H locs hP hD hS => ?_)
              refine lv_iconst (v := (1 : Int32)) hx hb d_Bra_runsExtended_216 (by decide) ?_
              have ef : f_Bra_runsExtended sp nx lt ex iw id ia ib ii = ((1 : Int32), (f_Sta_keepConditionBit id ((f_Sta_conditionBit ia sp) ||| (f_Sta_conditionBit ib sp)) sp), nx, lt, ex) := by unfold f_Bra_runsExtended; try dsimp only; rw [if_neg h1, if_neg h4, if_neg h6, if_neg h7, if_neg h8, if_pos h9]
              exact k_zret hx hb hr hlocks hK hP hD hS [0, 1, 2, 3, 4] rfl (by rw [ef] <;> rfl) (by rw [ef] <;> rfl) nb1 d_Bra_runsExtended_217
            · by_cases h10 : ii = (528 : Int32)
              · refine lv_lookup (off := 214) (tgt := 218) hx hb d_Bra_runsExtended_4 (by decide) (by have hq9 := h10 <;> rw [hq9] <;> rfl) (by decide) ?_
                refine lv_aload_n hx hb d_Bra_runsExtended_218 rfl (lv_at hl 0 rfl) ?_
                refine lv_aload_n hx hb d_Bra_runsExtended_219 rfl (lv_at hl 1 rfl) ?_
                refine lv_aload_n hx hb d_Bra_runsExtended_220 rfl (lv_at hl 0 rfl) ?_
                refine lv_aload_n hx hb d_Bra_runsExtended_221 rfl (lv_at hl 1 rfl) ?_
                refine va_get (D := D) (ci := 5) (v := .int id) (C := "MappedProcessor$Instruction") (T := T_Ins) (N := 8) hx hb hB iw_Ins hown hK hP 3 rfl rfl 2 (by decide) (hB _ mw_92) (fun _ h9 => h9) rfl d_Bra_runsExtended_222 ?_
                refine lv_iconst (v := (4 : Int32)) hx hb d_Bra_runsExtended_225 (by decide) ?_
                refine lv_ior hx hb d_Bra_runsExtended_226 ?_
                refine lv_aload_n hx hb d_Bra_runsExtended_227 rfl (lv_at hl 1 rfl) ?_
                refine va_get (D := D) (ci := 5) (v := .int ia) (C := "MappedProcessor$Instruction") (T := T_Ins) (N := 8) hx hb hB iw_Ins hown hK hP 3 rfl rfl 3 (by decide) (hB _ mw_101) (fun _ h9 => h9) rfl d_Bra_runsExtended_228 ?_
                let t11 := (f_Bra_taken (id ||| (4 : Int32)) ia sp)
                refine k_cVi (As := [.int (id ||| (4 : Int32)), .int ia]) (rest := [.ref aI, .ref aB]) (wr := [(aI, .inr (5, [.int iw, .int io, .int id, .int ia, .int ib, .int ii, .int is, .int iu]))]) (wj := [(aS, .inr (9, [.ref aG, .ref aX, .int nx, .int lt, .int sm, .int ex])), (aG, .inl (cG, 32, .inl g)), (aX, .inl (cX, 64, .inl t11.2)), (aI, .inr (5, [.int iw, .int io, .int id, .int ia, .int ib, .int ii, .int is, .int iu])), (aB, .inr (2, [.ref aS]))]) ⟨hx, hb, hml, hown, hB⟩ (c_Bra_taken l D aS aG aX aB cG cX g sp nx lt sm ex (id ||| (4 : Int32)) ia) yl_Bra_taken mw_428 hK hN hP hD hS hA [0, 1] [0, 1, 2, 4] [3] [1, 2, 3, 0, 4] rfl rfl rfl rfl (by decide +kernel) 3 rfl rfl rfl rfl hl.1 rfl (Nat.le_of_ble_eq_true rfl) ⟨Nat.le_of_ble_eq_true rfl, Nat.le_of_ble_eq_true rfl⟩ d_Bra_runsExtended_231 ⟨Nat.le_of_ble_eq_true rfl, Nat.le_of_ble_eq_true rfl⟩ (fun H locs hP hD hS => ?_)
                refine lv_aload_n hx hb d_Bra_runsExtended_234 rfl (lv_at hl 0 rfl) ?_
                refine va_get (D := D) (ci := 2) (v := .ref aS) (C := "MappedProcessor$Branches") (T := T_Bra) (N := 1) hx hb hB iw_Bra hown hK hP 4 rfl rfl 0 (by decide) (hB _ mw_179) (fun _ h9 => h9) rfl d_Bra_runsExtended_235 ?_
                refine lv_iconst (v := (5 : Int32)) hx hb d_Bra_runsExtended_238 (by decide) ?_
                refine k_cVi (As := [.int (5 : Int32)]) (rest := [.int t11.1, .ref aI, .ref aB]) (wr := [(aI, .inr (5, [.int iw, .int io, .int id, .int ia, .int ib, .int ii, .int is, .int iu])), (aB, .inr (2, [.ref aS]))]) (wj := [(aS, .inr (9, [.ref aG, .ref aX, .int nx, .int lt, .int sm, .int ex])), (aG, .inl (cG, 32, .inl g)), (aX, .inl (cX, 64, .inl t11.2)), (aI, .inr (5, [.int iw, .int io, .int id, .int ia, .int ib, .int ii, .int is, .int iu])), (aB, .inr (2, [.ref aS]))]) ⟨hx, hb, hml, hown, hB⟩ (c_Sta_read l D aS aG aX cG cX g t11.2 nx lt sm ex (5 : Int32)) yl_Sta_read mw_432 hK hN hP hD hS hA [0, 1] [0, 1, 2] [3, 4] [2, 3, 4, 0, 1] rfl rfl rfl rfl (by decide +kernel) 0 rfl rfl rfl rfl hl.1 rfl (Nat.le_of_ble_eq_true rfl) ⟨Nat.le_of_ble_eq_true rfl, Nat.le_of_ble_eq_true rfl⟩ d_Bra_runsExtended_239 ⟨Nat.le_of_ble_eq_true rfl, Nat.le_of_ble_eq_true rfl⟩ (fun H locs hP hD hS => ?_)
                refine lv_bipush (v := (-4 : Int32)) hx hb d_Bra_runsExtended_242 (by decide) ?_
                refine lv_iand hx hb d_Bra_runsExtended_244 ?_
                let t12 := (f_Bra_branch t11.1 ((f_Sta_read (5 : Int32) t11.2) &&& (-4 : Int32)) t11.2 nx iw)
                refine k_cVv (As := [.ref aI, .int t11.1, .int ((f_Sta_read (5 : Int32) t11.2) &&& (-4 : Int32))]) (rest := []) (wr := []) (wj := [(aS, .inr (9, [.ref aG, .ref aX, .int t12.2, .int lt, .int sm, .int ex])), (aG, .inl (cG, 32, .inl g)), (aX, .inl (cX, 64, .inl t12.1)), (aI, .inr (5, [.int iw, .int io, .int id, .int ia, .int ib, .int ii, .int is, .int iu])), (aB, .inr (2, [.ref aS]))]) ⟨hx, hb, hml, hown, hB⟩ (c_Bra_branch l D aS aG aX aI aB cG cX g t11.2 nx lt sm ex iw io id ia ib ii is iu aI t11.1 ((f_Sta_read (5 : Int32) t11.2) &&& (-4 : Int32))) yl_Bra_branch mw_446 hK hN hP hD hS hA [0, 1] [0, 1, 2, 3, 4] [] [0, 1, 2, 3, 4] rfl rfl rfl rfl (by decide +kernel) 4 rfl rfl rfl rfl hl.1 rfl (Nat.le_of_ble_eq_true rfl) ⟨Nat.le_of_ble_eq_true rfl, Nat.le_of_ble_eq_true rfl⟩ d_Bra_runsExtended_245 ⟨Nat.le_of_ble_eq_true rfl, Nat.le_of_ble_eq_true rfl⟩ (fun H locs hP hD hS => ?_)
                refine lv_iconst (v := (1 : Int32)) hx hb d_Bra_runsExtended_248 (by decide) ?_
                have ef : f_Bra_runsExtended sp nx lt ex iw id ia ib ii = ((1 : Int32), t12.1, t12.2, lt, ex) := by unfold f_Bra_runsExtended; try dsimp only; rw [if_neg h1, if_neg h4, if_neg h6, if_neg h7, if_neg h8, if_neg h9, if_pos h10]
                exact k_zret hx hb hr hlocks hK hP hD hS [0, 1, 2, 3, 4] rfl (by rw [ef] <;> rfl) (by rw [ef] <;> rfl) nb1 d_Bra_runsExtended_249
              · refine lv_lookup (off := 246) (tgt := 250) hx hb d_Bra_runsExtended_4 (by decide) (by rw [lv_osw (k := (16 : Int32)) h1 (by decide), lv_osw (k := (50 : Int32)) h4 (by decide), lv_osw (k := (150 : Int32)) h6 (by decide), lv_osw (k := (193 : Int32)) h7 (by decide), lv_osw (k := (257 : Int32)) h8 (by decide), lv_osw (k := (449 : Int32)) h9 (by decide), lv_osw (k := (528 : Int32)) h10 (by decide)]; rfl) (by decide) ?_
                refine lv_iconst (v := (0 : Int32)) hx hb d_Bra_runsExtended_250 (by decide) ?_
                have ef : f_Bra_runsExtended sp nx lt ex iw id ia ib ii = ((0 : Int32), sp, nx, lt, ex) := by unfold f_Bra_runsExtended; try dsimp only; rw [if_neg h1, if_neg h4, if_neg h6, if_neg h7, if_neg h8, if_neg h9, if_neg h10]
                exact k_zret hx hb hr hlocks hK hP hD hS [0, 1, 2, 3, 4] rfl (by rw [ef] <;> rfl) (by rw [ef] <;> rfl) nb0 d_Bra_runsExtended_251
