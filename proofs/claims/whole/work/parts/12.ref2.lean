/-! MappedProcessorModel.crBit(I)Z -/
theorem d_Ref_crBit_0 : decode b_Ref_crBit 0 = .ok (.aload_n 0, 1) := by decide +kernel
theorem d_Ref_crBit_1 : decode b_Ref_crBit 1 = .ok (.getfield 13, 3) := by decide +kernel
theorem d_Ref_crBit_4 : decode b_Ref_crBit 4 = .ok (.iconst 2, 1) := by decide +kernel
theorem d_Ref_crBit_5 : decode b_Ref_crBit 5 = .ok (.iaload, 1) := by decide +kernel
theorem d_Ref_crBit_6 : decode b_Ref_crBit 6 = .ok (.bipush 31, 2) := by decide +kernel
theorem d_Ref_crBit_8 : decode b_Ref_crBit 8 = .ok (.iload_n 1, 1) := by decide +kernel
theorem d_Ref_crBit_9 : decode b_Ref_crBit 9 = .ok (.isub, 1) := by decide +kernel
theorem d_Ref_crBit_10 : decode b_Ref_crBit 10 = .ok (.invokestatic 28, 3) := by decide +kernel
theorem d_Ref_crBit_13 : decode b_Ref_crBit 13 = .ok (.ireturn, 1) := by decide +kernel
def f_Ref_crBit (p0 : Int32) (rs : Nat → Int32) : Int32 :=
  (f_Ref_bit (rs 2) ((31 : Int32) - p0))
set_option maxHeartbeats 4000000 in
set_option maxRecDepth 100000 in
theorem ib_Ref_crBit (p0 : Int32) (rs : Nat → Int32) : isB (f_Ref_crBit p0 rs) := by
  unfold f_Ref_crBit
  try dsimp only
  repeat' (first | refine ib_ite ?_ ?_ | refine ib_ite0 ?_ ?_ | with_reducible exact ib0 | with_reducible exact ib1 | with_reducible exact ib_Ref_bit _ _ | (dsimp only; first | exact ib0 | exact ib1))
theorem nb_Ref_crBit (p0 : Int32) (rs : Nat → Int32) : narrow .boolean (.int (f_Ref_crBit p0 rs)) = .int (f_Ref_crBit p0 rs) := nb_of (ib_Ref_crBit p0 rs)
set_option maxHeartbeats 4000000 in
set_option maxRecDepth 100000 in
theorem c_Ref_crBit (l : Launch) (D : va_G) (aT bG bS bM : Nat) (dG dS dM : ClassId) (rg : Nat → Int32) (rs : Nat → Int32) (rm : Nat → Int32) (rl : Int32) (rk : Int32) (rr : Int32) (re : Int32) (rc : Int32) (rd : Int32) (ra : Int32) (rb : Int32) (rn : Int32) (rf : Int32) (rw : Int32) (p0 : Int32) : kMi l y_Ref_crBit b_Ref_crBit 2 (some .boolean) 1 21 D kCl [(dG, .int), (dS, .int), (dM, .int)] [.ref aT, .int p0] [(aT, .inr (11, [.ref bG, .ref bS, .ref bM, .int rl, .int rk, .int rr, .int re, .int rc, .int rd, .int ra, .int rb, .int rn, .int rf, .int rw])), (bG, .inl (dG, 32, .inl rg)), (bS, .inl (dS, 48, .inl rs)), (bM, .inl (dM, 16384, .inl rm))] (f_Ref_crBit p0 rs) [(aT, .inr (11, [.ref bG, .ref bS, .ref bM, .int rl, .int rk, .int rr, .int re, .int rc, .int rd, .int ra, .int rb, .int rn, .int rf, .int rw])), (bG, .inl (dG, 32, .inl rg)), (bS, .inl (dS, 48, .inl rs)), (bM, .inl (dM, 16384, .inl rm))] := by
  refine k_entry (Qc := fun A => kQi D kCl [(dG, .int), (dS, .int), (dM, .int)] (f_Ref_crBit p0 rs) [(aT, .inr (11, [.ref bG, .ref bS, .ref bM, .int rl, .int rk, .int rr, .int re, .int rc, .int rd, .int ra, .int rb, .int rn, .int rf, .int rw])), (bG, .inl (dG, 32, .inl rg)), (bS, .inl (dS, 48, .inl rs)), (bM, .inl (dM, 16384, .inl rm))] A) (lv := [(0, .ref aT), (1, .int p0)]) (by decide) (Nat.le_of_ble_eq_true rfl) rfl ?_
  intro p e s m below meth c A ls hx hb hr hml hB hown hlocks hin hA hK hN hP hD hS hl
  have hown : s.vm.findClass "MappedProcessorModel" = some m.cls := hown
  refine lv_aload_n hx hb d_Ref_crBit_0 rfl (lv_at hl 0 rfl) ?_
  refine va_get (D := D) (ci := 11) (v := .ref bS) (C := "MappedProcessorModel") (T := T_Ref) (N := 14) hx hb hB iw_Ref hown hK hP 0 rfl rfl 1 (by decide) (hB _ mw_644) (fun _ h9 => h9) rfl d_Ref_crBit_1 ?_
  refine lv_iconst (v := (2 : Int32)) hx hb d_Ref_crBit_4 (by decide) ?_
  refine k_iald (j := 2) hx hb hK hP 2 1 rfl rfl (by decide) (by unfold vp_in; decide) d_Ref_crBit_5 ?_
  refine lv_bipush (v := (31 : Int32)) hx hb d_Ref_crBit_6 (by decide) ?_
  refine lv_iload_n hx hb d_Ref_crBit_8 rfl (lv_at hl 1 rfl) ?_
  refine lv_isub hx hb d_Ref_crBit_9 ?_
  refine k_cSi (As := [.int (rs 2), .int ((31 : Int32) - p0)]) (rest := []) (wr := [(aT, .inr (11, [.ref bG, .ref bS, .ref bM, .int rl, .int rk, .int rr, .int re, .int rc, .int rd, .int ra, .int rb, .int rn, .int rf, .int rw])), (bG, .inl (dG, 32, .inl rg)), (bS, .inl (dS, 48, .inl rs)), (bM, .inl (dM, 16384, .inl rm))]) (wj := [(aT, .inr (11, [.ref bG, .ref bS, .ref bM, .int rl, .int rk, .int rr, .int re, .int rc, .int rd, .int ra, .int rb, .int rn, .int rf, .int rw])), (bG, .inl (dG, 32, .inl rg)), (bS, .inl (dS, 48, .inl rs)), (bM, .inl (dM, 16384, .inl rm))]) ⟨hx, hb, hml, hown, hB⟩ (c_Ref_bit l D (rs 2) ((31 : Int32) - p0)) yl_Ref_bit mw_725 hK hN hP hD hS hA [] [] [0, 1, 2, 3] [0, 1, 2, 3] rfl rfl rfl rfl (by decide +kernel) rfl hl.1 rfl (Nat.le_of_ble_eq_true rfl) ⟨Nat.le_of_ble_eq_true rfl, Nat.le_of_ble_eq_true rfl⟩ d_Ref_crBit_10 ⟨Nat.le_of_ble_eq_true rfl, Nat.le_of_ble_eq_true rfl⟩ (fun H locs hP hD hS => ?_)
  have ef : f_Ref_crBit p0 rs = (f_Ref_bit (rs 2) ((31 : Int32) - p0)) := rfl
  exact k_zret hx hb hr hlocks hK hP hD hS [0, 1, 2, 3] rfl rfl (by rw [ef] <;> rfl) (nb_Ref_bit _ _) d_Ref_crBit_13
/-! MappedProcessorModel.branch(IIZ)V -/
theorem d_Ref_branch_0 : decode b_Ref_branch 0 = .ok (.iconst 1, 1) := by decide +kernel
theorem d_Ref_branch_1 : decode b_Ref_branch 1 = .ok (.istore 4, 2) := by decide +kernel
theorem d_Ref_branch_3 : decode b_Ref_branch 3 = .ok (.iload_n 1, 1) := by decide +kernel
theorem d_Ref_branch_4 : decode b_Ref_branch 4 = .ok (.iconst 2, 1) := by decide +kernel
theorem d_Ref_branch_5 : decode b_Ref_branch 5 = .ok (.invokestatic 28, 3) := by decide +kernel
theorem d_Ref_branch_8 : decode b_Ref_branch 8 = .ok (.ifCond .ne 46, 3) := by decide +kernel
theorem d_Ref_branch_11 : decode b_Ref_branch 11 = .ok (.aload_n 0, 1) := by decide +kernel
theorem d_Ref_branch_12 : decode b_Ref_branch 12 = .ok (.getfield 13, 3) := by decide +kernel
theorem d_Ref_branch_15 : decode b_Ref_branch 15 = .ok (.iconst 5, 1) := by decide +kernel
theorem d_Ref_branch_16 : decode b_Ref_branch 16 = .ok (.aload_n 0, 1) := by decide +kernel
theorem d_Ref_branch_17 : decode b_Ref_branch 17 = .ok (.getfield 13, 3) := by decide +kernel
theorem d_Ref_branch_20 : decode b_Ref_branch 20 = .ok (.iconst 5, 1) := by decide +kernel
theorem d_Ref_branch_21 : decode b_Ref_branch 21 = .ok (.iaload, 1) := by decide +kernel
theorem d_Ref_branch_22 : decode b_Ref_branch 22 = .ok (.iconst 1, 1) := by decide +kernel
theorem d_Ref_branch_23 : decode b_Ref_branch 23 = .ok (.isub, 1) := by decide +kernel
theorem d_Ref_branch_24 : decode b_Ref_branch 24 = .ok (.iastore, 1) := by decide +kernel
theorem d_Ref_branch_25 : decode b_Ref_branch 25 = .ok (.aload_n 0, 1) := by decide +kernel
theorem d_Ref_branch_26 : decode b_Ref_branch 26 = .ok (.getfield 13, 3) := by decide +kernel
theorem d_Ref_branch_29 : decode b_Ref_branch 29 = .ok (.iconst 5, 1) := by decide +kernel
theorem d_Ref_branch_30 : decode b_Ref_branch 30 = .ok (.iaload, 1) := by decide +kernel
theorem d_Ref_branch_31 : decode b_Ref_branch 31 = .ok (.ifCond .ne 7, 3) := by decide +kernel
theorem d_Ref_branch_34 : decode b_Ref_branch 34 = .ok (.iconst 1, 1) := by decide +kernel
theorem d_Ref_branch_35 : decode b_Ref_branch 35 = .ok (.goto 4, 3) := by decide +kernel
theorem d_Ref_branch_38 : decode b_Ref_branch 38 = .ok (.iconst 0, 1) := by decide +kernel
theorem d_Ref_branch_39 : decode b_Ref_branch 39 = .ok (.iload_n 1, 1) := by decide +kernel
theorem d_Ref_branch_40 : decode b_Ref_branch 40 = .ok (.iconst 1, 1) := by decide +kernel
theorem d_Ref_branch_41 : decode b_Ref_branch 41 = .ok (.invokestatic 28, 3) := by decide +kernel
theorem d_Ref_branch_44 : decode b_Ref_branch 44 = .ok (.if_icmp .ne 7, 3) := by decide +kernel
theorem d_Ref_branch_47 : decode b_Ref_branch 47 = .ok (.iconst 1, 1) := by decide +kernel
theorem d_Ref_branch_48 : decode b_Ref_branch 48 = .ok (.goto 4, 3) := by decide +kernel
theorem d_Ref_branch_51 : decode b_Ref_branch 51 = .ok (.iconst 0, 1) := by decide +kernel
theorem d_Ref_branch_52 : decode b_Ref_branch 52 = .ok (.istore 4, 2) := by decide +kernel
theorem d_Ref_branch_54 : decode b_Ref_branch 54 = .ok (.iload_n 1, 1) := by decide +kernel
theorem d_Ref_branch_55 : decode b_Ref_branch 55 = .ok (.iconst 4, 1) := by decide +kernel
theorem d_Ref_branch_56 : decode b_Ref_branch 56 = .ok (.invokestatic 28, 3) := by decide +kernel
theorem d_Ref_branch_59 : decode b_Ref_branch 59 = .ok (.ifCond .ne 31, 3) := by decide +kernel
theorem d_Ref_branch_62 : decode b_Ref_branch 62 = .ok (.iload 4, 2) := by decide +kernel
theorem d_Ref_branch_64 : decode b_Ref_branch 64 = .ok (.ifCond .eq 23, 3) := by decide +kernel
theorem d_Ref_branch_67 : decode b_Ref_branch 67 = .ok (.aload_n 0, 1) := by decide +kernel
theorem d_Ref_branch_68 : decode b_Ref_branch 68 = .ok (.aload_n 0, 1) := by decide +kernel
theorem d_Ref_branch_69 : decode b_Ref_branch 69 = .ok (.getfield 85, 3) := by decide +kernel
theorem d_Ref_branch_72 : decode b_Ref_branch 72 = .ok (.invokevirtual 157, 3) := by decide +kernel
theorem d_Ref_branch_75 : decode b_Ref_branch 75 = .ok (.iload_n 1, 1) := by decide +kernel
theorem d_Ref_branch_76 : decode b_Ref_branch 76 = .ok (.iconst 3, 1) := by decide +kernel
theorem d_Ref_branch_77 : decode b_Ref_branch 77 = .ok (.invokestatic 28, 3) := by decide +kernel
theorem d_Ref_branch_80 : decode b_Ref_branch 80 = .ok (.if_icmp .ne 7, 3) := by decide +kernel
theorem d_Ref_branch_83 : decode b_Ref_branch 83 = .ok (.iconst 1, 1) := by decide +kernel
theorem d_Ref_branch_84 : decode b_Ref_branch 84 = .ok (.goto 4, 3) := by decide +kernel
theorem d_Ref_branch_87 : decode b_Ref_branch 87 = .ok (.iconst 0, 1) := by decide +kernel
theorem d_Ref_branch_88 : decode b_Ref_branch 88 = .ok (.istore 4, 2) := by decide +kernel
theorem d_Ref_branch_90 : decode b_Ref_branch 90 = .ok (.aload_n 0, 1) := by decide +kernel
theorem d_Ref_branch_91 : decode b_Ref_branch 91 = .ok (.getfield 79, 3) := by decide +kernel
theorem d_Ref_branch_94 : decode b_Ref_branch 94 = .ok (.iconst 1, 1) := by decide +kernel
theorem d_Ref_branch_95 : decode b_Ref_branch 95 = .ok (.iand, 1) := by decide +kernel
theorem d_Ref_branch_96 : decode b_Ref_branch 96 = .ok (.iconst 1, 1) := by decide +kernel
theorem d_Ref_branch_97 : decode b_Ref_branch 97 = .ok (.if_icmp .ne 17, 3) := by decide +kernel
theorem d_Ref_branch_100 : decode b_Ref_branch 100 = .ok (.aload_n 0, 1) := by decide +kernel
theorem d_Ref_branch_101 : decode b_Ref_branch 101 = .ok (.getfield 13, 3) := by decide +kernel
theorem d_Ref_branch_104 : decode b_Ref_branch 104 = .ok (.iconst 4, 1) := by decide +kernel
theorem d_Ref_branch_105 : decode b_Ref_branch 105 = .ok (.aload_n 0, 1) := by decide +kernel
theorem d_Ref_branch_106 : decode b_Ref_branch 106 = .ok (.getfield 13, 3) := by decide +kernel
theorem d_Ref_branch_109 : decode b_Ref_branch 109 = .ok (.iconst 0, 1) := by decide +kernel
theorem d_Ref_branch_110 : decode b_Ref_branch 110 = .ok (.iaload, 1) := by decide +kernel
theorem d_Ref_branch_111 : decode b_Ref_branch 111 = .ok (.iconst 4, 1) := by decide +kernel
theorem d_Ref_branch_112 : decode b_Ref_branch 112 = .ok (.iadd, 1) := by decide +kernel
theorem d_Ref_branch_113 : decode b_Ref_branch 113 = .ok (.iastore, 1) := by decide +kernel
theorem d_Ref_branch_114 : decode b_Ref_branch 114 = .ok (.aload_n 0, 1) := by decide +kernel
theorem d_Ref_branch_115 : decode b_Ref_branch 115 = .ok (.iload 4, 2) := by decide +kernel
theorem d_Ref_branch_117 : decode b_Ref_branch 117 = .ok (.ifCond .ne 14, 3) := by decide +kernel
theorem d_Ref_branch_120 : decode b_Ref_branch 120 = .ok (.aload_n 0, 1) := by decide +kernel
theorem d_Ref_branch_121 : decode b_Ref_branch 121 = .ok (.getfield 13, 3) := by decide +kernel
theorem d_Ref_branch_124 : decode b_Ref_branch 124 = .ok (.iconst 0, 1) := by decide +kernel
theorem d_Ref_branch_125 : decode b_Ref_branch 125 = .ok (.iaload, 1) := by decide +kernel
theorem d_Ref_branch_126 : decode b_Ref_branch 126 = .ok (.iconst 4, 1) := by decide +kernel
theorem d_Ref_branch_127 : decode b_Ref_branch 127 = .ok (.iadd, 1) := by decide +kernel
theorem d_Ref_branch_128 : decode b_Ref_branch 128 = .ok (.goto 19, 3) := by decide +kernel
theorem d_Ref_branch_131 : decode b_Ref_branch 131 = .ok (.iload_n 3, 1) := by decide +kernel
theorem d_Ref_branch_132 : decode b_Ref_branch 132 = .ok (.ifCond .eq 14, 3) := by decide +kernel
theorem d_Ref_branch_135 : decode b_Ref_branch 135 = .ok (.aload_n 0, 1) := by decide +kernel
theorem d_Ref_branch_136 : decode b_Ref_branch 136 = .ok (.getfield 13, 3) := by decide +kernel
theorem d_Ref_branch_139 : decode b_Ref_branch 139 = .ok (.iconst 0, 1) := by decide +kernel
theorem d_Ref_branch_140 : decode b_Ref_branch 140 = .ok (.iaload, 1) := by decide +kernel
theorem d_Ref_branch_141 : decode b_Ref_branch 141 = .ok (.iload_n 2, 1) := by decide +kernel
theorem d_Ref_branch_142 : decode b_Ref_branch 142 = .ok (.iadd, 1) := by decide +kernel
theorem d_Ref_branch_143 : decode b_Ref_branch 143 = .ok (.goto 4, 3) := by decide +kernel
theorem d_Ref_branch_146 : decode b_Ref_branch 146 = .ok (.iload_n 2, 1) := by decide +kernel
theorem d_Ref_branch_147 : decode b_Ref_branch 147 = .ok (.putfield 50, 3) := by decide +kernel
theorem d_Ref_branch_150 : decode b_Ref_branch 150 = .ok (.return_, 1) := by decide +kernel
def f_Ref_branch (p0 : Int32) (p1 : Int32) (p2 : Int32) (rs : Nat → Int32) (rc : Int32) (ra : Int32) : (Nat → Int32) × Int32 :=
  if (f_Ref_bit p0 (2 : Int32)) = (0 : Int32) then
    if (f_Ref_bit p0 (4 : Int32)) = (0 : Int32) then
      if (if (if ((upd rs 5 ((rs 5) - (1 : Int32))) 5) = (0 : Int32) then (1 : Int32) else (0 : Int32)) = (f_Ref_bit p0 (1 : Int32)) then (1 : Int32) else (0 : Int32)) = (0 : Int32) then
        if (rc &&& (1 : Int32)) = (1 : Int32) then
          ((upd (upd rs 5 ((rs 5) - (1 : Int32))) 4 (((upd rs 5 ((rs 5) - (1 : Int32))) 0) + (4 : Int32))), (((upd (upd rs 5 ((rs 5) - (1 : Int32))) 4 (((upd rs 5 ((rs 5) - (1 : Int32))) 0) + (4 : Int32))) 0) + (4 : Int32)))
        else
          ((upd rs 5 ((rs 5) - (1 : Int32))), (((upd rs 5 ((rs 5) - (1 : Int32))) 0) + (4 : Int32)))
      else
        if (rc &&& (1 : Int32)) = (1 : Int32) then
          ((upd (upd rs 5 ((rs 5) - (1 : Int32))) 4 (((upd rs 5 ((rs 5) - (1 : Int32))) 0) + (4 : Int32))), (if (if (f_Ref_crBit ra (upd rs 5 ((rs 5) - (1 : Int32)))) = (f_Ref_bit p0 (3 : Int32)) then (1 : Int32) else (0 : Int32)) = (0 : Int32) then (((upd (upd rs 5 ((rs 5) - (1 : Int32))) 4 (((upd rs 5 ((rs 5) - (1 : Int32))) 0) + (4 : Int32))) 0) + (4 : Int32)) else (if p2 = (0 : Int32) then p1 else (((upd (upd rs 5 ((rs 5) - (1 : Int32))) 4 (((upd rs 5 ((rs 5) - (1 : Int32))) 0) + (4 : Int32))) 0) + p1))))
        else
          ((upd rs 5 ((rs 5) - (1 : Int32))), (if (if (f_Ref_crBit ra (upd rs 5 ((rs 5) - (1 : Int32)))) = (f_Ref_bit p0 (3 : Int32)) then (1 : Int32) else (0 : Int32)) = (0 : Int32) then (((upd rs 5 ((rs 5) - (1 : Int32))) 0) + (4 : Int32)) else (if p2 = (0 : Int32) then p1 else (((upd rs 5 ((rs 5) - (1 : Int32))) 0) + p1))))
    else
      if (rc &&& (1 : Int32)) = (1 : Int32) then
        ((upd (upd rs 5 ((rs 5) - (1 : Int32))) 4 (((upd rs 5 ((rs 5) - (1 : Int32))) 0) + (4 : Int32))), (if (if (if ((upd rs 5 ((rs 5) - (1 : Int32))) 5) = (0 : Int32) then (1 : Int32) else (0 : Int32)) = (f_Ref_bit p0 (1 : Int32)) then (1 : Int32) else (0 : Int32)) = (0 : Int32) then (((upd (upd rs 5 ((rs 5) - (1 : Int32))) 4 (((upd rs 5 ((rs 5) - (1 : Int32))) 0) + (4 : Int32))) 0) + (4 : Int32)) else (if p2 = (0 : Int32) then p1 else (((upd (upd rs 5 ((rs 5) - (1 : Int32))) 4 (((upd rs 5 ((rs 5) - (1 : Int32))) 0) + (4 : Int32))) 0) + p1))))
      else
        ((upd rs 5 ((rs 5) - (1 : Int32))), (if (if (if ((upd rs 5 ((rs 5) - (1 : Int32))) 5) = (0 : Int32) then (1 : Int32) else (0 : Int32)) = (f_Ref_bit p0 (1 : Int32)) then (1 : Int32) else (0 : Int32)) = (0 : Int32) then (((upd rs 5 ((rs 5) - (1 : Int32))) 0) + (4 : Int32)) else (if p2 = (0 : Int32) then p1 else (((upd rs 5 ((rs 5) - (1 : Int32))) 0) + p1))))
  else
    if (f_Ref_bit p0 (4 : Int32)) = (0 : Int32) then
      if (rc &&& (1 : Int32)) = (1 : Int32) then
        ((upd rs 4 ((rs 0) + (4 : Int32))), (if (if (f_Ref_crBit ra rs) = (f_Ref_bit p0 (3 : Int32)) then (1 : Int32) else (0 : Int32)) = (0 : Int32) then (((upd rs 4 ((rs 0) + (4 : Int32))) 0) + (4 : Int32)) else (if p2 = (0 : Int32) then p1 else (((upd rs 4 ((rs 0) + (4 : Int32))) 0) + p1))))
      else
        (rs, (if (if (f_Ref_crBit ra rs) = (f_Ref_bit p0 (3 : Int32)) then (1 : Int32) else (0 : Int32)) = (0 : Int32) then ((rs 0) + (4 : Int32)) else (if p2 = (0 : Int32) then p1 else ((rs 0) + p1))))
    else
      if (rc &&& (1 : Int32)) = (1 : Int32) then
        ((upd rs 4 ((rs 0) + (4 : Int32))), (if p2 = (0 : Int32) then p1 else (((upd rs 4 ((rs 0) + (4 : Int32))) 0) + p1)))
      else
        (rs, (if p2 = (0 : Int32) then p1 else ((rs 0) + p1)))
set_option maxHeartbeats 4000000 in
set_option maxRecDepth 100000 in
theorem c_Ref_branch (l : Launch) (D : va_G) (aT bG bS bM : Nat) (dG dS dM : ClassId) (rg : Nat → Int32) (rs : Nat → Int32) (rm : Nat → Int32) (rl : Int32) (rk : Int32) (rr : Int32) (re : Int32) (rc : Int32) (rd : Int32) (ra : Int32) (rb : Int32) (rn : Int32) (rf : Int32) (rw : Int32) (p0 : Int32) (p1 : Int32) (p2 : Int32) (hra : vp_in ra 32) : kMv l y_Ref_branch b_Ref_branch 5 none 2 42 D kCl [(dG, .int), (dS, .int), (dM, .int)] [.ref aT, .int p0, .int p1, .int p2] [(aT, .inr (11, [.ref bG, .ref bS, .ref bM, .int rl, .int rk, .int rr, .int re, .int rc, .int rd, .int ra, .int rb, .int rn, .int rf, .int rw])), (bG, .inl (dG, 32, .inl rg)), (bS, .inl (dS, 48, .inl rs)), (bM, .inl (dM, 16384, .inl rm))] [(aT, .inr (11, [.ref bG, .ref bS, .ref bM, .int rl, .int rk, .int rr, .int re, .int rc, .int rd, .int ra, .int rb, .int (f_Ref_branch p0 p1 p2 rs rc ra).2, .int rf, .int rw])), (bG, .inl (dG, 32, .inl rg)), (bS, .inl (dS, 48, .inl (f_Ref_branch p0 p1 p2 rs rc ra).1)), (bM, .inl (dM, 16384, .inl rm))] := by
  refine k_entry (Qc := fun A => kQv D kCl [(dG, .int), (dS, .int), (dM, .int)] [(aT, .inr (11, [.ref bG, .ref bS, .ref bM, .int rl, .int rk, .int rr, .int re, .int rc, .int rd, .int ra, .int rb, .int (f_Ref_branch p0 p1 p2 rs rc ra).2, .int rf, .int rw])), (bG, .inl (dG, 32, .inl rg)), (bS, .inl (dS, 48, .inl (f_Ref_branch p0 p1 p2 rs rc ra).1)), (bM, .inl (dM, 16384, .inl rm))] A) (lv := [(0, .ref aT), (1, .int p0), (2, .int p1), (3, .int p2)]) (by decide) (Nat.le_of_ble_eq_true rfl) rfl ?_
  intro p e s m below meth c A ls hx hb hr hml hB hown hlocks hin hA hK hN hP hD hS hl
  have hown : s.vm.findClass "MappedProcessorModel" = some m.cls := hown
  refine lv_iconst (v := (1 : Int32)) hx hb d_Ref_branch_0 (by decide) ?_
  refine lv_istore (lv' := [(4, .int (1 : Int32)), (0, .ref aT), (1, .int p0), (2, .int p1), (3, .int p2)]) hx hb d_Ref_branch_1 hl (by decide) rfl (fun ls hl => ?_)
  refine lv_iload_n hx hb d_Ref_branch_3 rfl (lv_at hl 2 rfl) ?_
  refine lv_iconst (v := (2 : Int32)) hx hb d_Ref_branch_4 (by decide) ?_
  refine k_cSi (As := [.int p0, .int (2 : Int32)]) (rest := []) (wr := [(aT, .inr (11, [.ref bG, .ref bS, .ref bM, .int rl, .int rk, .int rr, .int re, .int rc, .int rd, .int ra, .int rb, .int rn, .int rf, .int rw])), (bG, .inl (dG, 32, .inl rg)), (bS, .inl (dS, 48, .inl rs)), (bM, .inl (dM, 16384, .inl rm))]) (wj := [(aT, .inr (11, [.ref bG, .ref bS, .ref bM, .int rl, .int rk, .int rr, .int re, .int rc, .int rd, .int ra, .int rb, .int rn, .int rf, .int rw])), (bG, .inl (dG, 32, .inl rg)), (bS, .inl (dS, 48, .inl rs)), (bM, .inl (dM, 16384, .inl rm))]) ⟨hx, hb, hml, hown, hB⟩ (c_Ref_bit l D p0 (2 : Int32)) yl_Ref_bit mw_725 hK hN hP hD hS hA [] [] [0, 1, 2, 3] [0, 1, 2, 3] rfl rfl rfl rfl (by decide +kernel) rfl hl.1 rfl (Nat.le_of_ble_eq_true rfl) ⟨Nat.le_of_ble_eq_true rfl, Nat.le_of_ble_eq_true rfl⟩ d_Ref_branch_5 ⟨Nat.le_of_ble_eq_true rfl, Nat.le_of_ble_eq_true rfl⟩ (fun H locs hP hD hS => ?_)
  refine lv_if_ne (tgt := 54) hx hb d_Ref_branch_8 (by decide) (fun (h4 : ¬ (f_Ref_bit p0 (2 : Int32)) = (0 : Int32)) => ?_) (fun (h4 : (f_Ref_bit p0 (2 : Int32)) = (0 : Int32)) => ?_)
  · refine lv_iload_n hx hb d_Ref_branch_54 rfl (lv_at hl 2 rfl) ?_
    refine lv_iconst (v := (4 : Int32)) hx hb d_Ref_branch_55 (by decide) ?_
    refine k_cSi (As := [.int p0, .int (4 : Int32)]) (rest := []) (wr := [(aT, .inr (11, [.ref bG, .ref bS, .ref bM, .int rl, .int rk, .int rr, .int re, .int rc, .int rd, .int ra, .int rb, .int rn, .int rf, .int rw])), (bG, .inl (dG, 32, .inl rg)), (bS, .inl (dS, 48, .inl rs)), (bM, .inl (dM, 16384, .inl rm))]) (wj := [(aT, .inr (11, [.ref bG, .ref bS, .ref bM, .int rl, .int rk, .int rr, .int re, .int rc, .int rd, .int ra, .int rb, .int rn, .int rf, .int rw])), (bG, .inl (dG, 32, .inl rg)), (bS, .inl (dS, 48, .inl rs)), (bM, .inl (dM, 16384, .inl rm))]) ⟨hx, hb, hml, hown, hB⟩ (c_Ref_bit l D p0 (4 : Int32)) yl_Ref_bit mw_725 hK hN hP hD hS hA [] [] [0, 1, 2, 3] [0, 1, 2, 3] rfl rfl rfl rfl (by decide +kernel) rfl hl.1 rfl (Nat.le_of_ble_eq_true rfl) ⟨Nat.le_of_ble_eq_true rfl, Nat.le_of_ble_eq_true rfl⟩ d_Ref_branch_56 ⟨Nat.le_of_ble_eq_true rfl, Nat.le_of_ble_eq_true rfl⟩ (fun H locs hP hD hS => ?_)
    refine lv_if_ne (tgt := 90) hx hb d_Ref_branch_59 (by decide) (fun (h8 : ¬ (f_Ref_bit p0 (4 : Int32)) = (0 : Int32)) => ?_) (fun (h8 : (f_Ref_bit p0 (4 : Int32)) = (0 : Int32)) => ?_)
    · refine lv_aload_n hx hb d_Ref_branch_90 rfl (lv_at hl 1 rfl) ?_
      refine va_get (D := D) (ci := 11) (v := .int rc) (C := "MappedProcessorModel") (T := T_Ref) (N := 14) hx hb hB iw_Ref hown hK hP 0 rfl rfl 7 (by decide) (hB _ mw_650) (fun _ h9 => h9) rfl d_Ref_branch_91 ?_
      refine lv_iconst (v := (1 : Int32)) hx hb d_Ref_branch_94 (by decide) ?_
      refine lv_iand hx hb d_Ref_branch_95 ?_
      refine lv_iconst (v := (1 : Int32)) hx hb d_Ref_branch_96 (by decide) ?_
      refine lv_icmp_ne (tgt := 114) hx hb d_Ref_branch_97 (by decide) (fun (h12 : ¬ (rc &&& (1 : Int32)) = (1 : Int32)) => ?_) (fun (h12 : (rc &&& (1 : Int32)) = (1 : Int32)) => ?_)
      · refine lv_aload_n hx hb d_Ref_branch_114 rfl (lv_at hl 1 rfl) ?_
        refine lv_iload hx hb d_Ref_branch_115 (lv_at hl 0 rfl) ?_
        refine lv_if_ne (tgt := 131) hx hb d_Ref_branch_117 (by decide) (fun h13 => ?_) (fun h13 => ?_)
        rotate_left
        · exact absurd h13 (by decide)
        refine lv_iload_n hx hb d_Ref_branch_131 rfl (lv_at hl 4 rfl) ?_
        refine k_join2 (c0 := p2 = (0 : Int32)) (x1 := p1) (x2 := ((rs 0) + p1)) (rest := [.ref aT]) 147 ?_ (fun k15 k16 => ?_)
        rotate_left
        · refine lv_if_eq (tgt := 146) hx hb d_Ref_branch_132 (by decide) (fun (h14 : p2 = (0 : Int32)) => ?_) (fun (h14 : ¬ p2 = (0 : Int32)) => ?_)
          · refine lv_iload_n hx hb d_Ref_branch_146 rfl (lv_at hl 3 rfl) ?_
            exact k15 h14
          · refine lv_aload_n hx hb d_Ref_branch_135 rfl (lv_at hl 1 rfl) ?_
            refine va_get (D := D) (ci := 11) (v := .ref bS) (C := "MappedProcessorModel") (T := T_Ref) (N := 14) hx hb hB iw_Ref hown hK hP 0 rfl rfl 1 (by decide) (hB _ mw_644) (fun _ h9 => h9) rfl d_Ref_branch_136 ?_
            refine lv_iconst (v := (0 : Int32)) hx hb d_Ref_branch_139 (by decide) ?_
            refine k_iald (j := 0) hx hb hK hP 2 1 rfl rfl (by decide) (by unfold vp_in; decide) d_Ref_branch_140 ?_
            refine lv_iload_n hx hb d_Ref_branch_141 rfl (lv_at hl 3 rfl) ?_
            refine lv_iadd hx hb d_Ref_branch_142 ?_
            refine lv_goto (tgt := 147) hx hb d_Ref_branch_143 (by decide) ?_
            exact k16 h14
        refine va_put (D := D) (ci := 11) (v := .int (if p2 = (0 : Int32) then p1 else ((rs 0) + p1))) (ty := .int) (C := "MappedProcessorModel") (T := T_Ref) (N := 14) hx hb hB iw_Ref ty_Ref ty_Ref_ok nm_Ref hown hK hP hD hS 0 rfl rfl 11 (by decide) (hB _ mw_654) (fun _ h9 => h9) rfl (by decide +kernel) rfl rfl (Nat.le_of_ble_eq_true rfl) d_Ref_branch_147 (fun H locs hP hD hS => ?_)
        have hP : va_P D kCl [(aT, .inr (11, [.ref bG, .ref bS, .ref bM, .int rl, .int rk, .int rr, .int re, .int rc, .int rd, .int ra, .int rb, .int (if p2 = (0 : Int32) then p1 else ((rs 0) + p1)), .int rf, .int rw])), (bG, .inl (dG, 32, .inl rg)), (bS, .inl (dS, 48, .inl rs)), (bM, .inl (dM, 16384, .inl rm))] H := hP
        have hD : va_D A [(aT, .inr (11, [.ref bG, .ref bS, .ref bM, .int rl, .int rk, .int rr, .int re, .int rc, .int rd, .int ra, .int rb, .int (if p2 = (0 : Int32) then p1 else ((rs 0) + p1)), .int rf, .int rw])), (bG, .inl (dG, 32, .inl rg)), (bS, .inl (dS, 48, .inl rs)), (bM, .inl (dM, 16384, .inl rm))] := hD
        have ef : f_Ref_branch p0 p1 p2 rs rc ra = (rs, (if p2 = (0 : Int32) then p1 else ((rs 0) + p1))) := by unfold f_Ref_branch; rw [if_neg h4, if_neg h8, if_neg h12]
        exact k_vret hx hb hr hlocks hK hP hD hS [0, 1, 2, 3] rfl (by rw [ef] <;> rfl) d_Ref_branch_150
      · refine lv_aload_n hx hb d_Ref_branch_100 rfl (lv_at hl 1 rfl) ?_
        refine va_get (D := D) (ci := 11) (v := .ref bS) (C := "MappedProcessorModel") (T := T_Ref) (N := 14) hx hb hB iw_Ref hown hK hP 0 rfl rfl 1 (by decide) (hB _ mw_644) (fun _ h9 => h9) rfl d_Ref_branch_101 ?_
        refine lv_iconst (v := (4 : Int32)) hx hb d_Ref_branch_104 (by decide) ?_
        refine lv_aload_n hx hb d_Ref_branch_105 rfl (lv_at hl 1 rfl) ?_
        refine va_get (D := D) (ci := 11) (v := .ref bS) (C := "MappedProcessorModel") (T := T_Ref) (N := 14) hx hb hB iw_Ref hown hK hP 0 rfl rfl 1 (by decide) (hB _ mw_644) (fun _ h9 => h9) rfl d_Ref_branch_106 ?_
        refine lv_iconst (v := (0 : Int32)) hx hb d_Ref_branch_109 (by decide) ?_
        refine k_iald (j := 0) hx hb hK hP 2 1 rfl rfl (by decide) (by unfold vp_in; decide) d_Ref_branch_110 ?_
        refine lv_iconst (v := (4 : Int32)) hx hb d_Ref_branch_111 (by decide) ?_
        refine lv_iadd hx hb d_Ref_branch_112 ?_
        refine k_iast (j := 4) hx hb hK hP hD hS 2 1 rfl rfl (by decide) (by unfold vp_in; decide) d_Ref_branch_113 (fun H locs hP hD hS => ?_)
        have hP : va_P D kCl [(aT, .inr (11, [.ref bG, .ref bS, .ref bM, .int rl, .int rk, .int rr, .int re, .int rc, .int rd, .int ra, .int rb, .int rn, .int rf, .int rw])), (bG, .inl (dG, 32, .inl rg)), (bS, .inl (dS, 48, .inl (upd rs 4 ((rs 0) + (4 : Int32))))), (bM, .inl (dM, 16384, .inl rm))] H := hP
        have hD : va_D A [(aT, .inr (11, [.ref bG, .ref bS, .ref bM, .int rl, .int rk, .int rr, .int re, .int rc, .int rd, .int ra, .int rb, .int rn, .int rf, .int rw])), (bG, .inl (dG, 32, .inl rg)), (bS, .inl (dS, 48, .inl (upd rs 4 ((rs 0) + (4 : Int32))))), (bM, .inl (dM, 16384, .inl rm))] := hD
        refine lv_aload_n hx hb d_Ref_branch_114 rfl (lv_at hl 1 rfl) ?_
        refine lv_iload hx hb d_Ref_branch_115 (lv_at hl 0 rfl) ?_
        refine lv_if_ne (tgt := 131) hx hb d_Ref_branch_117 (by decide) (fun h19 => ?_) (fun h19 => ?_)
        rotate_left
        · exact absurd h19 (by decide)
        refine lv_iload_n hx hb d_Ref_branch_131 rfl (lv_at hl 4 rfl) ?_
        refine k_join2 (c0 := p2 = (0 : Int32)) (x1 := p1) (x2 := (((upd rs 4 ((rs 0) + (4 : Int32))) 0) + p1)) (rest := [.ref aT]) 147 ?_ (fun k21 k22 => ?_)
        rotate_left
        · refine lv_if_eq (tgt := 146) hx hb d_Ref_branch_132 (by decide) (fun (h20 : p2 = (0 : Int32)) => ?_) (fun (h20 : ¬ p2 = (0 : Int32)) => ?_)
          · refine lv_iload_n hx hb d_Ref_branch_146 rfl (lv_at hl 3 rfl) ?_
            exact k21 h20
          · refine lv_aload_n hx hb d_Ref_branch_135 rfl (lv_at hl 1 rfl) ?_
            refine va_get (D := D) (ci := 11) (v := .ref bS) (C := "MappedProcessorModel") (T := T_Ref) (N := 14) hx hb hB iw_Ref hown hK hP 0 rfl rfl 1 (by decide) (hB _ mw_644) (fun _ h9 => h9) rfl d_Ref_branch_136 ?_
            refine lv_iconst (v := (0 : Int32)) hx hb d_Ref_branch_139 (by decide) ?_
            refine k_iald (j := 0) hx hb hK hP 2 1 rfl rfl (by decide) (by unfold vp_in; decide) d_Ref_branch_140 ?_
            refine lv_iload_n hx hb d_Ref_branch_141 rfl (lv_at hl 3 rfl) ?_
            refine lv_iadd hx hb d_Ref_branch_142 ?_
            refine lv_goto (tgt := 147) hx hb d_Ref_branch_143 (by decide) ?_
            exact k22 h20
        refine va_put (D := D) (ci := 11) (v := .int (if p2 = (0 : Int32) then p1 else (((upd rs 4 ((rs 0) + (4 : Int32))) 0) + p1))) (ty := .int) (C := "MappedProcessorModel") (T := T_Ref) (N := 14) hx hb hB iw_Ref ty_Ref ty_Ref_ok nm_Ref hown hK hP hD hS 0 rfl rfl 11 (by decide) (hB _ mw_654) (fun _ h9 => h9) rfl (by decide +kernel) rfl rfl (Nat.le_of_ble_eq_true rfl) d_Ref_branch_147 (fun H locs hP hD hS => ?_)
        have hP : va_P D kCl [(aT, .inr (11, [.ref bG, .ref bS, .ref bM, .int rl, .int rk, .int rr, .int re, .int rc, .int rd, .int ra, .int rb, .int (if p2 = (0 : Int32) then p1 else (((upd rs 4 ((rs 0) + (4 : Int32))) 0) + p1)), .int rf, .int rw])), (bG, .inl (dG, 32, .inl rg)), (bS, .inl (dS, 48, .inl (upd rs 4 ((rs 0) + (4 : Int32))))), (bM, .inl (dM, 16384, .inl rm))] H := hP
        have hD : va_D A [(aT, .inr (11, [.ref bG, .ref bS, .ref bM, .int rl, .int rk, .int rr, .int re, .int rc, .int rd, .int ra, .int rb, .int (if p2 = (0 : Int32) then p1 else (((upd rs 4 ((rs 0) + (4 : Int32))) 0) + p1)), .int rf, .int rw])), (bG, .inl (dG, 32, .inl rg)), (bS, .inl (dS, 48, .inl (upd rs 4 ((rs 0) + (4 : Int32))))), (bM, .inl (dM, 16384, .inl rm))] := hD
        have ef : f_Ref_branch p0 p1 p2 rs rc ra = ((upd rs 4 ((rs 0) + (4 : Int32))), (if p2 = (0 : Int32) then p1 else (((upd rs 4 ((rs 0) + (4 : Int32))) 0) + p1))) := by unfold f_Ref_branch; rw [if_neg h4, if_neg h8, if_pos h12]
        exact k_vret hx hb hr hlocks hK hP hD hS [0, 1, 2, 3] rfl (by rw [ef] <;> rfl) d_Ref_branch_150
    · refine lv_iload hx hb d_Ref_branch_62 (lv_at hl 0 rfl) ?_
      refine lv_if_eq (tgt := 87) hx hb d_Ref_branch_64 (by decide) (fun h25 => ?_) (fun h25 => ?_)
      · exact absurd h25 (by decide)
      refine lv_aload_n hx hb d_Ref_branch_67 rfl (lv_at hl 1 rfl) ?_
      refine lv_aload_n hx hb d_Ref_branch_68 rfl (lv_at hl 1 rfl) ?_
      refine va_get (D := D) (ci := 11) (v := .int ra) (C := "MappedProcessorModel") (T := T_Ref) (N := 14) hx hb hB iw_Ref hown hK hP 0 rfl rfl 9 (by decide) (hB _ mw_652) (fun _ h9 => h9) rfl d_Ref_branch_69 ?_
      refine k_cVi (As := [.int ra]) (rest := []) (wr := []) (wj := [(aT, .inr (11, [.ref bG, .ref bS, .ref bM, .int rl, .int rk, .int rr, .int re, .int rc, .int rd, .int ra, .int rb, .int rn, .int rf, .int rw])), (bG, .inl (dG, 32, .inl rg)), (bS, .inl (dS, 48, .inl rs)), (bM, .inl (dM, 16384, .inl rm))]) ⟨hx, hb, hml, hown, hB⟩ (c_Ref_crBit l D aT bG bS bM dG dS dM rg rs rm rl rk rr re rc rd ra rb rn rf rw ra) yl_Ref_crBit mw_810 hK hN hP hD hS hA [0, 1, 2] [0, 1, 2, 3] [] [0, 1, 2, 3] rfl rfl rfl rfl (by decide +kernel) 0 rfl rfl rfl rfl hl.1 rfl (Nat.le_of_ble_eq_true rfl) ⟨Nat.le_of_ble_eq_true rfl, Nat.le_of_ble_eq_true rfl⟩ d_Ref_branch_72 ⟨Nat.le_of_ble_eq_true rfl, Nat.le_of_ble_eq_true rfl⟩ (fun H locs hP hD hS => ?_)
      refine lv_iload_n hx hb d_Ref_branch_75 rfl (lv_at hl 2 rfl) ?_
      refine lv_iconst (v := (3 : Int32)) hx hb d_Ref_branch_76 (by decide) ?_
      refine k_cSi (As := [.int p0, .int (3 : Int32)]) (rest := [.int (f_Ref_crBit ra rs)]) (wr := [(aT, .inr (11, [.ref bG, .ref bS, .ref bM, .int rl, .int rk, .int rr, .int re, .int rc, .int rd, .int ra, .int rb, .int rn, .int rf, .int rw])), (bG, .inl (dG, 32, .inl rg)), (bS, .inl (dS, 48, .inl rs)), (bM, .inl (dM, 16384, .inl rm))]) (wj := [(aT, .inr (11, [.ref bG, .ref bS, .ref bM, .int rl, .int rk, .int rr, .int re, .int rc, .int rd, .int ra, .int rb, .int rn, .int rf, .int rw])), (bG, .inl (dG, 32, .inl rg)), (bS, .inl (dS, 48, .inl rs)), (bM, .inl (dM, 16384, .inl rm))]) ⟨hx, hb, hml, hown, hB⟩ (c_Ref_bit l D p0 (3 : Int32)) yl_Ref_bit mw_725 hK hN hP hD hS hA [] [] [0, 1, 2, 3] [0, 1, 2, 3] rfl rfl rfl rfl (by decide +kernel) rfl hl.1 rfl (Nat.le_of_ble_eq_true rfl) ⟨Nat.le_of_ble_eq_true rfl, Nat.le_of_ble_eq_true rfl⟩ d_Ref_branch_77 ⟨Nat.le_of_ble_eq_true rfl, Nat.le_of_ble_eq_true rfl⟩ (fun H locs hP hD hS => ?_)
      refine k_join2 (c0 := (f_Ref_crBit ra rs) = (f_Ref_bit p0 (3 : Int32))) (x1 := (1 : Int32)) (x2 := (0 : Int32)) (rest := []) 88 ?_ (fun k27 k28 => ?_)
      rotate_left
      · refine lv_icmp_ne (tgt := 87) hx hb d_Ref_branch_80 (by decide) (fun (h26 : ¬ (f_Ref_crBit ra rs) = (f_Ref_bit p0 (3 : Int32))) => ?_) (fun (h26 : (f_Ref_crBit ra rs) = (f_Ref_bit p0 (3 : Int32))) => ?_)
        · refine lv_iconst (v := (0 : Int32)) hx hb d_Ref_branch_87 (by decide) ?_
          exact k28 h26
        · refine lv_iconst (v := (1 : Int32)) hx hb d_Ref_branch_83 (by decide) ?_
          refine lv_goto (tgt := 88) hx hb d_Ref_branch_84 (by decide) ?_
          exact k27 h26
      refine lv_istore (lv' := [(4, .int (if (f_Ref_crBit ra rs) = (f_Ref_bit p0 (3 : Int32)) then (1 : Int32) else (0 : Int32))), (0, .ref aT), (1, .int p0), (2, .int p1), (3, .int p2)]) hx hb d_Ref_branch_88 hl (by decide) rfl (fun ls hl => ?_)
      refine lv_aload_n hx hb d_Ref_branch_90 rfl (lv_at hl 1 rfl) ?_
      refine va_get (D := D) (ci := 11) (v := .int rc) (C := "MappedProcessorModel") (T := T_Ref) (N := 14) hx hb hB iw_Ref hown hK hP 0 rfl rfl 7 (by decide) (hB _ mw_650) (fun _ h9 => h9) rfl d_Ref_branch_91 ?_
      refine lv_iconst (v := (1 : Int32)) hx hb d_Ref_branch_94 (by decide) ?_
      refine lv_iand hx hb d_Ref_branch_95 ?_
      refine lv_iconst (v := (1 : Int32)) hx hb d_Ref_branch_96 (by decide) ?_
      refine lv_icmp_ne (tgt := 114) hx hb d_Ref_branch_97 (by decide) (fun (h34 : ¬ (rc &&& (1 : Int32)) = (1 : Int32)) => ?_) (fun (h34 : (rc &&& (1 : Int32)) = (1 : Int32)) => ?_)
      · refine lv_aload_n hx hb d_Ref_branch_114 rfl (lv_at hl 1 rfl) ?_
        refine lv_iload hx hb d_Ref_branch_115 (lv_at hl 0 rfl) ?_
        refine k_join2 (c0 := (if (f_Ref_crBit ra rs) = (f_Ref_bit p0 (3 : Int32)) then (1 : Int32) else (0 : Int32)) = (0 : Int32)) (x1 := ((rs 0) + (4 : Int32))) (x2 := (if p2 = (0 : Int32) then p1 else ((rs 0) + p1))) (rest := [.ref aT]) 147 ?_ (fun k36 k37 => ?_)
        rotate_left
        · refine lv_if_ne (tgt := 131) hx hb d_Ref_branch_117 (by decide) (fun (h35 : ¬ (if (f_Ref_crBit ra rs) = (f_Ref_bit p0 (3 : Int32)) then (1 : Int32) else (0 : Int32)) = (0 : Int32)) => ?_) (fun (h35 : (if (f_Ref_crBit ra rs) = (f_Ref_bit p0 (3 : Int32)) then (1 : Int32) else (0 : Int32)) = (0 : Int32)) => ?_)
          · refine lv_iload_n hx hb d_Ref_branch_131 rfl (lv_at hl 4 rfl) ?_
            refine k_join2 (c0 := p2 = (0 : Int32)) (x1 := p1) (x2 := ((rs 0) + p1)) (rest := [.ref aT]) 147 ?_ (fun k39 k40 => ?_)
            rotate_left
            · refine lv_if_eq (tgt := 146) hx hb d_Ref_branch_132 (by decide) (fun (h38 : p2 = (0 : Int32)) => ?_) (fun (h38 : ¬ p2 = (0 : Int32)) => ?_)
              · refine lv_iload_n hx hb d_Ref_branch_146 rfl (lv_at hl 3 rfl) ?_
                exact k39 h38
              · refine lv_aload_n hx hb d_Ref_branch_135 rfl (lv_at hl 1 rfl) ?_
                refine va_get (D := D) (ci := 11) (v := .ref bS) (C := "MappedProcessorModel") (T := T_Ref) (N := 14) hx hb hB iw_Ref hown hK hP 0 rfl rfl 1 (by decide) (hB _ mw_644) (fun _ h9 => h9) rfl d_Ref_branch_136 ?_
                refine lv_iconst (v := (0 : Int32)) hx hb d_Ref_branch_139 (by decide) ?_
                refine k_iald (j := 0) hx hb hK hP 2 1 rfl rfl (by decide) (by unfold vp_in; decide) d_Ref_branch_140 ?_
                refine lv_iload_n hx hb d_Ref_branch_141 rfl (lv_at hl 3 rfl) ?_
                refine lv_iadd hx hb d_Ref_branch_142 ?_
                refine lv_goto (tgt := 147) hx hb d_Ref_branch_143 (by decide) ?_
                exact k40 h38
            exact k37 h35
          · refine lv_aload_n hx hb d_Ref_branch_120 rfl (lv_at hl 1 rfl) ?_
            refine va_get (D := D) (ci := 11) (v := .ref bS) (C := "MappedProcessorModel") (T := T_Ref) (N := 14) hx hb hB iw_Ref hown hK hP 0 rfl rfl 1 (by decide) (hB _ mw_644) (fun _ h9 => h9) rfl d_Ref_branch_121 ?_
            refine lv_iconst (v := (0 : Int32)) hx hb d_Ref_branch_124 (by decide) ?_
            refine k_iald (j := 0) hx hb hK hP 2 1 rfl rfl (by decide) (by unfold vp_in; decide) d_Ref_branch_125 ?_
            refine lv_iconst (v := (4 : Int32)) hx hb d_Ref_branch_126 (by decide) ?_
            refine lv_iadd hx hb d_Ref_branch_127 ?_
            refine lv_goto (tgt := 147) hx hb d_Ref_branch_128 (by decide) ?_
            exact k36 h35
        refine va_put (D := D) (ci := 11) (v := .int (if (if (f_Ref_crBit ra rs) = (f_Ref_bit p0 (3 : Int32)) then (1 : Int32) else (0 : Int32)) = (0 : Int32) then ((rs 0) + (4 : Int32)) else (if p2 = (0 : Int32) then p1 else ((rs 0) + p1)))) (ty := .int) (C := "MappedProcessorModel") (T := T_Ref) (N := 14) hx hb hB iw_Ref ty_Ref ty_Ref_ok nm_Ref hown hK hP hD hS 0 rfl rfl 11 (by decide) (hB _ mw_654) (fun _ h9 => h9) rfl (by decide +kernel) rfl rfl (Nat.le_of_ble_eq_true rfl) d_Ref_branch_147 (fun H locs hP hD hS => ?_)
        have hP : va_P D kCl [(aT, .inr (11, [.ref bG, .ref bS, .ref bM, .int rl, .int rk, .int rr, .int re, .int rc, .int rd, .int ra, .int rb, .int (if (if (f_Ref_crBit ra rs) = (f_Ref_bit p0 (3 : Int32)) then (1 : Int32) else (0 : Int32)) = (0 : Int32) then ((rs 0) + (4 : Int32)) else (if p2 = (0 : Int32) then p1 else ((rs 0) + p1))), .int rf, .int rw])), (bG, .inl (dG, 32, .inl rg)), (bS, .inl (dS, 48, .inl rs)), (bM, .inl (dM, 16384, .inl rm))] H := hP
        have hD : va_D A [(aT, .inr (11, [.ref bG, .ref bS, .ref bM, .int rl, .int rk, .int rr, .int re, .int rc, .int rd, .int ra, .int rb, .int (if (if (f_Ref_crBit ra rs) = (f_Ref_bit p0 (3 : Int32)) then (1 : Int32) else (0 : Int32)) = (0 : Int32) then ((rs 0) + (4 : Int32)) else (if p2 = (0 : Int32) then p1 else ((rs 0) + p1))), .int rf, .int rw])), (bG, .inl (dG, 32, .inl rg)), (bS, .inl (dS, 48, .inl rs)), (bM, .inl (dM, 16384, .inl rm))] := hD
        have ef : f_Ref_branch p0 p1 p2 rs rc ra = (rs, (if (if (f_Ref_crBit ra rs) = (f_Ref_bit p0 (3 : Int32)) then (1 : Int32) else (0 : Int32)) = (0 : Int32) then ((rs 0) + (4 : Int32)) else (if p2 = (0 : Int32) then p1 else ((rs 0) + p1)))) := by unfold f_Ref_branch; rw [if_neg h4, if_pos h8, if_neg h34]
        exact k_vret hx hb hr hlocks hK hP hD hS [0, 1, 2, 3] rfl (by rw [ef] <;> rfl) d_Ref_branch_150
      · refine lv_aload_n hx hb d_Ref_branch_100 rfl (lv_at hl 1 rfl) ?_
        refine va_get (D := D) (ci := 11) (v := .ref bS) (C := "MappedProcessorModel") (T := T_Ref) (N := 14) hx hb hB iw_Ref hown hK hP 0 rfl rfl 1 (by decide) (hB _ mw_644) (fun _ h9 => h9) rfl d_Ref_branch_101 ?_
        refine lv_iconst (v := (4 : Int32)) hx hb d_Ref_branch_104 (by decide) ?_
        refine lv_aload_n hx hb d_Ref_branch_105 rfl (lv_at hl 1 rfl) ?_
        refine va_get (D := D) (ci := 11) (v := .ref bS) (C := "MappedProcessorModel") (T := T_Ref) (N := 14) hx hb hB iw_Ref hown hK hP 0 rfl rfl 1 (by decide) (hB _ mw_644) (fun _ h9 => h9) rfl d_Ref_branch_106 ?_
        refine lv_iconst (v := (0 : Int32)) hx hb d_Ref_branch_109 (by decide) ?_
        refine k_iald (j := 0) hx hb hK hP 2 1 rfl rfl (by decide) (by unfold vp_in; decide) d_Ref_branch_110 ?_
        refine lv_iconst (v := (4 : Int32)) hx hb d_Ref_branch_111 (by decide) ?_
        refine lv_iadd hx hb d_Ref_branch_112 ?_
        refine k_iast (j := 4) hx hb hK hP hD hS 2 1 rfl rfl (by decide) (by unfold vp_in; decide) d_Ref_branch_113 (fun H locs hP hD hS => ?_)
        have hP : va_P D kCl [(aT, .inr (11, [.ref bG, .ref bS, .ref bM, .int rl, .int rk, .int rr, .int re, .int rc, .int rd, .int ra, .int rb, .int rn, .int rf, .int rw])), (bG, .inl (dG, 32, .inl rg)), (bS, .inl (dS, 48, .inl (upd rs 4 ((rs 0) + (4 : Int32))))), (bM, .inl (dM, 16384, .inl rm))] H := hP
        have hD : va_D A [(aT, .inr (11, [.ref bG, .ref bS, .ref bM, .int rl, .int rk, .int rr, .int re, .int rc, .int rd, .int ra, .int rb, .int rn, .int rf, .int rw])), (bG, .inl (dG, 32, .inl rg)), (bS, .inl (dS, 48, .inl (upd rs 4 ((rs 0) + (4 : Int32))))), (bM, .inl (dM, 16384, .inl rm))] := hD
        refine lv_aload_n hx hb d_Ref_branch_114 rfl (lv_at hl 1 rfl) ?_
        refine lv_iload hx hb d_Ref_branch_115 (lv_at hl 0 rfl) ?_
        refine k_join2 (c0 := (if (f_Ref_crBit ra rs) = (f_Ref_bit p0 (3 : Int32)) then (1 : Int32) else (0 : Int32)) = (0 : Int32)) (x1 := (((upd rs 4 ((rs 0) + (4 : Int32))) 0) + (4 : Int32))) (x2 := (if p2 = (0 : Int32) then p1 else (((upd rs 4 ((rs 0) + (4 : Int32))) 0) + p1))) (rest := [.ref aT]) 147 ?_ (fun k46 k47 => ?_)
        rotate_left
        · refine lv_if_ne (tgt := 131) hx hb d_Ref_branch_117 (by decide) (fun (h45 : ¬ (if (f_Ref_crBit ra rs) = (f_Ref_bit p0 (3 : Int32)) then (1 : Int32) else (0 : Int32)) = (0 : Int32)) => ?_) (fun (h45 : (if (f_Ref_crBit ra rs) = (f_Ref_bit p0 (3 : Int32)) then (1 : Int32) else (0 : Int32)) = (0 : Int32)) => ?_)
          · refine lv_iload_n hx hb d_Ref_branch_131 rfl (lv_at hl 4 rfl) ?_
            refine k_join2 (c0 := p2 = (0 : Int32)) (x1 := p1) (x2 := (((upd rs 4 ((rs 0) + (4 : Int32))) 0) + p1)) (rest := [.ref aT]) 147 ?_ (fun k49 k50 => ?_)
            rotate_left
            · refine lv_if_eq (tgt := 146) hx hb d_Ref_branch_132 (by decide) (fun (h48 : p2 = (0 : Int32)) => ?_) (fun (h48 : ¬ p2 = (0 : Int32)) => ?_)
              · refine lv_iload_n hx hb d_Ref_branch_146 rfl (lv_at hl 3 rfl) ?_
                exact k49 h48
              · refine lv_aload_n hx hb d_Ref_branch_135 rfl (lv_at hl 1 rfl) ?_
                refine va_get (D := D) (ci := 11) (v := .ref bS) (C := "MappedProcessorModel") (T := T_Ref) (N := 14) hx hb hB iw_Ref hown hK hP 0 rfl rfl 1 (by decide) (hB _ mw_644) (fun _ h9 => h9) rfl d_Ref_branch_136 ?_
                refine lv_iconst (v := (0 : Int32)) hx hb d_Ref_branch_139 (by decide) ?_
                refine k_iald (j := 0) hx hb hK hP 2 1 rfl rfl (by decide) (by unfold vp_in; decide) d_Ref_branch_140 ?_
                refine lv_iload_n hx hb d_Ref_branch_141 rfl (lv_at hl 3 rfl) ?_
                refine lv_iadd hx hb d_Ref_branch_142 ?_
                refine lv_goto (tgt := 147) hx hb d_Ref_branch_143 (by decide) ?_
                exact k50 h48
            exact k47 h45
          · refine lv_aload_n hx hb d_Ref_branch_120 rfl (lv_at hl 1 rfl) ?_
            refine va_get (D := D) (ci := 11) (v := .ref bS) (C := "MappedProcessorModel") (T := T_Ref) (N := 14) hx hb hB iw_Ref hown hK hP 0 rfl rfl 1 (by decide) (hB _ mw_644) (fun _ h9 => h9) rfl d_Ref_branch_121 ?_
            refine lv_iconst (v := (0 : Int32)) hx hb d_Ref_branch_124 (by decide) ?_
            refine k_iald (j := 0) hx hb hK hP 2 1 rfl rfl (by decide) (by unfold vp_in; decide) d_Ref_branch_125 ?_
            refine lv_iconst (v := (4 : Int32)) hx hb d_Ref_branch_126 (by decide) ?_
            refine lv_iadd hx hb d_Ref_branch_127 ?_
            refine lv_goto (tgt := 147) hx hb d_Ref_branch_128 (by decide) ?_
            exact k46 h45
        refine va_put (D := D) (ci := 11) (v := .int (if (if (f_Ref_crBit ra rs) = (f_Ref_bit p0 (3 : Int32)) then (1 : Int32) else (0 : Int32)) = (0 : Int32) then (((upd rs 4 ((rs 0) + (4 : Int32))) 0) + (4 : Int32)) else (if p2 = (0 : Int32) then p1 else (((upd rs 4 ((rs 0) + (4 : Int32))) 0) + p1)))) (ty := .int) (C := "MappedProcessorModel") (T := T_Ref) (N := 14) hx hb hB iw_Ref ty_Ref ty_Ref_ok nm_Ref hown hK hP hD hS 0 rfl rfl 11 (by decide) (hB _ mw_654) (fun _ h9 => h9) rfl (by decide +kernel) rfl rfl (Nat.le_of_ble_eq_true rfl) d_Ref_branch_147 (fun H locs hP hD hS => ?_)
        have hP : va_P D kCl [(aT, .inr (11, [.ref bG, .ref bS, .ref bM, .int rl, .int rk, .int rr, .int re, .int rc, .int rd, .int ra, .int rb, .int (if (if (f_Ref_crBit ra rs) = (f_Ref_bit p0 (3 : Int32)) then (1 : Int32) else (0 : Int32)) = (0 : Int32) then (((upd rs 4 ((rs 0) + (4 : Int32))) 0) + (4 : Int32)) else (if p2 = (0 : Int32) then p1 else (((upd rs 4 ((rs 0) + (4 : Int32))) 0) + p1))), .int rf, .int rw])), (bG, .inl (dG, 32, .inl rg)), (bS, .inl (dS, 48, .inl (upd rs 4 ((rs 0) + (4 : Int32))))), (bM, .inl (dM, 16384, .inl rm))] H := hP
        have hD : va_D A [(aT, .inr (11, [.ref bG, .ref bS, .ref bM, .int rl, .int rk, .int rr, .int re, .int rc, .int rd, .int ra, .int rb, .int (if (if (f_Ref_crBit ra rs) = (f_Ref_bit p0 (3 : Int32)) then (1 : Int32) else (0 : Int32)) = (0 : Int32) then (((upd rs 4 ((rs 0) + (4 : Int32))) 0) + (4 : Int32)) else (if p2 = (0 : Int32) then p1 else (((upd rs 4 ((rs 0) + (4 : Int32))) 0) + p1))), .int rf, .int rw])), (bG, .inl (dG, 32, .inl rg)), (bS, .inl (dS, 48, .inl (upd rs 4 ((rs 0) + (4 : Int32))))), (bM, .inl (dM, 16384, .inl rm))] := hD
        have ef : f_Ref_branch p0 p1 p2 rs rc ra = ((upd rs 4 ((rs 0) + (4 : Int32))), (if (if (f_Ref_crBit ra rs) = (f_Ref_bit p0 (3 : Int32)) then (1 : Int32) else (0 : Int32)) = (0 : Int32) then (((upd rs 4 ((rs 0) + (4 : Int32))) 0) + (4 : Int32)) else (if p2 = (0 : Int32) then p1 else (((upd rs 4 ((rs 0) + (4 : Int32))) 0) + p1)))) := by unfold f_Ref_branch; rw [if_neg h4, if_pos h8, if_pos h34]
        exact k_vret hx hb hr hlocks hK hP hD hS [0, 1, 2, 3] rfl (by rw [ef] <;> rfl) d_Ref_branch_150
  · refine lv_aload_n hx hb d_Ref_branch_11 rfl (lv_at hl 1 rfl) ?_
    refine va_get (D := D) (ci := 11) (v := .ref bS) (C := "MappedProcessorModel") (T := T_Ref) (N := 14) hx hb hB iw_Ref hown hK hP 0 rfl rfl 1 (by decide) (hB _ mw_644) (fun _ h9 => h9) rfl d_Ref_branch_12 ?_
    refine lv_iconst (v := (5 : Int32)) hx hb d_Ref_branch_15 (by decide) ?_
    refine lv_aload_n hx hb d_Ref_branch_16 rfl (lv_at hl 1 rfl) ?_
    refine va_get (D := D) (ci := 11) (v := .ref bS) (C := "MappedProcessorModel") (T := T_Ref) (N := 14) hx hb hB iw_Ref hown hK hP 0 rfl rfl 1 (by decide) (hB _ mw_644) (fun _ h9 => h9) rfl d_Ref_branch_17 ?_
    refine lv_iconst (v := (5 : Int32)) hx hb d_Ref_branch_20 (by decide) ?_
    refine k_iald (j := 5) hx hb hK hP 2 1 rfl rfl (by decide) (by unfold vp_in; decide) d_Ref_branch_21 ?_
    refine lv_iconst (v := (1 : Int32)) hx hb d_Ref_branch_22 (by decide) ?_
    refine lv_isub hx hb d_Ref_branch_23 ?_
    refine k_iast (j := 5) hx hb hK hP hD hS 2 1 rfl rfl (by decide) (by unfold vp_in; decide) d_Ref_branch_24 (fun H locs hP hD hS => ?_)
    have hP : va_P D kCl [(aT, .inr (11, [.ref bG, .ref bS, .ref bM, .int rl, .int rk, .int rr, .int re, .int rc, .int rd, .int ra, .int rb, .int rn, .int rf, .int rw])), (bG, .inl (dG, 32, .inl rg)), (bS, .inl (dS, 48, .inl (upd rs 5 ((rs 5) - (1 : Int32))))), (bM, .inl (dM, 16384, .inl rm))] H := hP
    have hD : va_D A [(aT, .inr (11, [.ref bG, .ref bS, .ref bM, .int rl, .int rk, .int rr, .int re, .int rc, .int rd, .int ra, .int rb, .int rn, .int rf, .int rw])), (bG, .inl (dG, 32, .inl rg)), (bS, .inl (dS, 48, .inl (upd rs 5 ((rs 5) - (1 : Int32))))), (bM, .inl (dM, 16384, .inl rm))] := hD
    refine lv_aload_n hx hb d_Ref_branch_25 rfl (lv_at hl 1 rfl) ?_
    refine va_get (D := D) (ci := 11) (v := .ref bS) (C := "MappedProcessorModel") (T := T_Ref) (N := 14) hx hb hB iw_Ref hown hK hP 0 rfl rfl 1 (by decide) (hB _ mw_644) (fun _ h9 => h9) rfl d_Ref_branch_26 ?_
    refine lv_iconst (v := (5 : Int32)) hx hb d_Ref_branch_29 (by decide) ?_
    refine k_iald (j := 5) hx hb hK hP 2 1 rfl rfl (by decide) (by unfold vp_in; decide) d_Ref_branch_30 ?_
    refine k_join2 (c0 := ((upd rs 5 ((rs 5) - (1 : Int32))) 5) = (0 : Int32)) (x1 := (1 : Int32)) (x2 := (0 : Int32)) (rest := []) 39 ?_ (fun k56 k57 => ?_)
    rotate_left
    · refine lv_if_ne (tgt := 38) hx hb d_Ref_branch_31 (by decide) (fun (h55 : ¬ ((upd rs 5 ((rs 5) - (1 : Int32))) 5) = (0 : Int32)) => ?_) (fun (h55 : ((upd rs 5 ((rs 5) - (1 : Int32))) 5) = (0 : Int32)) => ?_)
      · refine lv_iconst (v := (0 : Int32)) hx hb d_Ref_branch_38 (by decide) ?_
        exact k57 h55
      · refine lv_iconst (v := (1 : Int32)) hx hb d_Ref_branch_34 (by decide) ?_
        refine lv_goto (tgt := 39) hx hb d_Ref_branch_35 (by decide) ?_
        exact k56 h55
    refine lv_iload_n hx hb d_Ref_branch_39 rfl (lv_at hl 2 rfl) ?_
    refine lv_iconst (v := (1 : Int32)) hx hb d_Ref_branch_40 (by decide) ?_
    refine k_cSi (As := [.int p0, .int (1 : Int32)]) (rest := [.int (if ((upd rs 5 ((rs 5) - (1 : Int32))) 5) = (0 : Int32) then (1 : Int32) else (0 : Int32))]) (wr := [(aT, .inr (11, [.ref bG, .ref bS, .ref bM, .int rl, .int rk, .int rr, .int re, .int rc, .int rd, .int ra, .int rb, .int rn, .int rf, .int rw])), (bG, .inl (dG, 32, .inl rg)), (bS, .inl (dS, 48, .inl (upd rs 5 ((rs 5) - (1 : Int32))))), (bM, .inl (dM, 16384, .inl rm))]) (wj := [(aT, .inr (11, [.ref bG, .ref bS, .ref bM, .int rl, .int rk, .int rr, .int re, .int rc, .int rd, .int ra, .int rb, .int rn, .int rf, .int rw])), (bG, .inl (dG, 32, .inl rg)), (bS, .inl (dS, 48, .inl (upd rs 5 ((rs 5) - (1 : Int32))))), (bM, .inl (dM, 16384, .inl rm))]) ⟨hx, hb, hml, hown, hB⟩ (c_Ref_bit l D p0 (1 : Int32)) yl_Ref_bit mw_725 hK hN hP hD hS hA [] [] [0, 1, 2, 3] [0, 1, 2, 3] rfl rfl rfl rfl (by decide +kernel) rfl hl.1 rfl (Nat.le_of_ble_eq_true rfl) ⟨Nat.le_of_ble_eq_true rfl, Nat.le_of_ble_eq_true rfl⟩ d_Ref_branch_41 ⟨Nat.le_of_ble_eq_true rfl, Nat.le_of_ble_eq_true rfl⟩ (fun H locs hP hD hS => ?_)
    refine k_join2 (c0 := (if ((upd rs 5 ((rs 5) - (1 : Int32))) 5) = (0 : Int32) then (1 : Int32) else (0 : Int32)) = (f_Ref_bit p0 (1 : Int32))) (x1 := (1 : Int32)) (x2 := (0 : Int32)) (rest := []) 52 ?_ (fun k61 k62 => ?_)
    rotate_left
    · refine lv_icmp_ne (tgt := 51) hx hb d_Ref_branch_44 (by decide) (fun (h60 : ¬ (if ((upd rs 5 ((rs 5) - (1 : Int32))) 5) = (0 : Int32) then (1 : Int32) else (0 : Int32)) = (f_Ref_bit p0 (1 : Int32))) => ?_) (fun (h60 : (if ((upd rs 5 ((rs 5) - (1 : Int32))) 5) = (0 : Int32) then (1 : Int32) else (0 : Int32)) = (f_Ref_bit p0 (1 : Int32))) => ?_)
      · refine lv_iconst (v := (0 : Int32)) hx hb d_Ref_branch_51 (by decide) ?_
        exact k62 h60
      · refine lv_iconst (v := (1 : Int32)) hx hb d_Ref_branch_47 (by decide) ?_
        refine lv_goto (tgt := 52) hx hb d_Ref_branch_48 (by decide) ?_
        exact k61 h60
    refine lv_istore (lv' := [(4, .int (if (if ((upd rs 5 ((rs 5) - (1 : Int32))) 5) = (0 : Int32) then (1 : Int32) else (0 : Int32)) = (f_Ref_bit p0 (1 : Int32)) then (1 : Int32) else (0 : Int32))), (0, .ref aT), (1, .int p0), (2, .int p1), (3, .int p2)]) hx hb d_Ref_branch_52 hl (by decide) rfl (fun ls hl => ?_)
    refine lv_iload_n hx hb d_Ref_branch_54 rfl (lv_at hl 2 rfl) ?_
    refine lv_iconst (v := (4 : Int32)) hx hb d_Ref_branch_55 (by decide) ?_
    refine k_cSi (As := [.int p0, .int (4 : Int32)]) (rest := []) (wr := [(aT, .inr (11, [.ref bG, .ref bS, .ref bM, .int rl, .int rk, .int rr, .int re, .int rc, .int rd, .int ra, .int rb, .int rn, .int rf, .int rw])), (bG, .inl (dG, 32, .inl rg)), (bS, .inl (dS, 48, .inl (upd rs 5 ((rs 5) - (1 : Int32))))), (bM, .inl (dM, 16384, .inl rm))]) (wj := [(aT, .inr (11, [.ref bG, .ref bS, .ref bM, .int rl, .int rk, .int rr, .int re, .int rc, .int rd, .int ra, .int rb, .int rn, .int rf, .int rw])), (bG, .inl (dG, 32, .inl rg)), (bS, .inl (dS, 48, .inl (upd rs 5 ((rs 5) - (1 : Int32))))), (bM, .inl (dM, 16384, .inl rm))]) ⟨hx, hb, hml, hown, hB⟩ (c_Ref_bit l D p0 (4 : Int32)) yl_Ref_bit mw_725 hK hN hP hD hS hA [] [] [0, 1, 2, 3] [0, 1, 2, 3] rfl rfl rfl rfl (by decide +kernel) rfl hl.1 rfl (Nat.le_of_ble_eq_true rfl) ⟨Nat.le_of_ble_eq_true rfl, Nat.le_of_ble_eq_true rfl⟩ d_Ref_branch_56 ⟨Nat.le_of_ble_eq_true rfl, Nat.le_of_ble_eq_true rfl⟩ (fun H locs hP hD hS => ?_)
    refine lv_if_ne (tgt := 90) hx hb d_Ref_branch_59 (by decide) (fun (h71 : ¬ (f_Ref_bit p0 (4 : Int32)) = (0 : Int32)) => ?_) (fun (h71 : (f_Ref_bit p0 (4 : Int32)) = (0 : Int32)) => ?_)
    · refine lv_aload_n hx hb d_Ref_branch_90 rfl (lv_at hl 1 rfl) ?_
      refine va_get (D := D) (ci := 11) (v := .int rc) (C := "MappedProcessorModel") (T := T_Ref) (N := 14) hx hb hB iw_Ref hown hK hP 0 rfl rfl 7 (by decide) (hB _ mw_650) (fun _ h9 => h9) rfl d_Ref_branch_91 ?_
      refine lv_iconst (v := (1 : Int32)) hx hb d_Ref_branch_94 (by decide) ?_
      refine lv_iand hx hb d_Ref_branch_95 ?_
      refine lv_iconst (v := (1 : Int32)) hx hb d_Ref_branch_96 (by decide) ?_
      refine lv_icmp_ne (tgt := 114) hx hb d_Ref_branch_97 (by decide) (fun (h75 : ¬ (rc &&& (1 : Int32)) = (1 : Int32)) => ?_) (fun (h75 : (rc &&& (1 : Int32)) = (1 : Int32)) => ?_)
      · refine lv_aload_n hx hb d_Ref_branch_114 rfl (lv_at hl 1 rfl) ?_
        refine lv_iload hx hb d_Ref_branch_115 (lv_at hl 0 rfl) ?_
        refine k_join2 (c0 := (if (if ((upd rs 5 ((rs 5) - (1 : Int32))) 5) = (0 : Int32) then (1 : Int32) else (0 : Int32)) = (f_Ref_bit p0 (1 : Int32)) then (1 : Int32) else (0 : Int32)) = (0 : Int32)) (x1 := (((upd rs 5 ((rs 5) - (1 : Int32))) 0) + (4 : Int32))) (x2 := (if p2 = (0 : Int32) then p1 else (((upd rs 5 ((rs 5) - (1 : Int32))) 0) + p1))) (rest := [.ref aT]) 147 ?_ (fun k77 k78 => ?_)
        rotate_left
        · refine lv_if_ne (tgt := 131) hx hb d_Ref_branch_117 (by decide) (fun (h76 : ¬ (if (if ((upd rs 5 ((rs 5) - (1 : Int32))) 5) = (0 : Int32) then (1 : Int32) else (0 : Int32)) = (f_Ref_bit p0 (1 : Int32)) then (1 : Int32) else (0 : Int32)) = (0 : Int32)) => ?_) (fun (h76 : (if (if ((upd rs 5 ((rs 5) - (1 : Int32))) 5) = (0 : Int32) then (1 : Int32) else (0 : Int32)) = (f_Ref_bit p0 (1 : Int32)) then (1 : Int32) else (0 : Int32)) = (0 : Int32)) => ?_)
          · refine lv_iload_n hx hb d_Ref_branch_131 rfl (lv_at hl 4 rfl) ?_
            refine k_join2 (c0 := p2 = (0 : Int32)) (x1 := p1) (x2 := (((upd rs 5 ((rs 5) - (1 : Int32))) 0) + p1)) (rest := [.ref aT]) 147 ?_ (fun k80 k81 => ?_)
            rotate_left
            · refine lv_if_eq (tgt := 146) hx hb d_Ref_branch_132 (by decide) (fun (h79 : p2 = (0 : Int32)) => ?_) (fun (h79 : ¬ p2 = (0 : Int32)) => ?_)
              · refine lv_iload_n hx hb d_Ref_branch_146 rfl (lv_at hl 3 rfl) ?_
                exact k80 h79
              · refine lv_aload_n hx hb d_Ref_branch_135 rfl (lv_at hl 1 rfl) ?_
                refine va_get (D := D) (ci := 11) (v := .ref bS) (C := "MappedProcessorModel") (T := T_Ref) (N := 14) hx hb hB iw_Ref hown hK hP 0 rfl rfl 1 (by decide) (hB _ mw_644) (fun _ h9 => h9) rfl d_Ref_branch_136 ?_
                refine lv_iconst (v := (0 : Int32)) hx hb d_Ref_branch_139 (by decide) ?_
                refine k_iald (j := 0) hx hb hK hP 2 1 rfl rfl (by decide) (by unfold vp_in; decide) d_Ref_branch_140 ?_
                refine lv_iload_n hx hb d_Ref_branch_141 rfl (lv_at hl 3 rfl) ?_
                refine lv_iadd hx hb d_Ref_branch_142 ?_
                refine lv_goto (tgt := 147) hx hb d_Ref_branch_143 (by decide) ?_
                exact k81 h79
            exact k78 h76
          · refine lv_aload_n hx hb d_Ref_branch_120 rfl (lv_at hl 1 rfl) ?_
            refine va_get (D := D) (ci := 11) (v := .ref bS) (C := "MappedProcessorModel") (T := T_Ref) (N := 14) hx hb hB iw_Ref hown hK hP 0 rfl rfl 1 (by decide) (hB _ mw_644) (fun _ h9 => h9) rfl d_Ref_branch_121 ?_
            refine lv_iconst (v := (0 : Int32)) hx hb d_Ref_branch_124 (by decide) ?_
            refine k_iald (j := 0) hx hb hK hP 2 1 rfl rfl (by decide) (by unfold vp_in; decide) d_Ref_branch_125 ?_
            refine lv_iconst (v := (4 : Int32)) hx hb d_Ref_branch_126 (by decide) ?_
            refine lv_iadd hx hb d_Ref_branch_127 ?_
            refine lv_goto (tgt := 147) hx hb d_Ref_branch_128 (by decide) ?_
            exact k77 h76
        refine va_put (D := D) (ci := 11) (v := .int (if (if (if ((upd rs 5 ((rs 5) - (1 : Int32))) 5) = (0 : Int32) then (1 : Int32) else (0 : Int32)) = (f_Ref_bit p0 (1 : Int32)) then (1 : Int32) else (0 : Int32)) = (0 : Int32) then (((upd rs 5 ((rs 5) - (1 : Int32))) 0) + (4 : Int32)) else (if p2 = (0 : Int32) then p1 else (((upd rs 5 ((rs 5) - (1 : Int32))) 0) + p1)))) (ty := .int) (C := "MappedProcessorModel") (T := T_Ref) (N := 14) hx hb hB iw_Ref ty_Ref ty_Ref_ok nm_Ref hown hK hP hD hS 0 rfl rfl 11 (by decide) (hB _ mw_654) (fun _ h9 => h9) rfl (by decide +kernel) rfl rfl (Nat.le_of_ble_eq_true rfl) d_Ref_branch_147 (fun H locs hP hD hS => ?_)
        have hP : va_P D kCl [(aT, .inr (11, [.ref bG, .ref bS, .ref bM, .int rl, .int rk, .int rr, .int re, .int rc, .int rd, .int ra, .int rb, .int (if (if (if ((upd rs 5 ((rs 5) - (1 : Int32))) 5) = (0 : Int32) then (1 : Int32) else (0 : Int32)) = (f_Ref_bit p0 (1 : Int32)) then (1 : Int32) else (0 : Int32)) = (0 : Int32) then (((upd rs 5 ((rs 5) - (1 : Int32))) 0) + (4 : Int32)) else (if p2 = (0 : Int32) then p1 else (((upd rs 5 ((rs 5) - (1 : Int32))) 0) + p1))), .int rf, .int rw])), (bG, .inl (dG, 32, .inl rg)), (bS, .inl (dS, 48, .inl (upd rs 5 ((rs 5) - (1 : Int32))))), (bM, .inl (dM, 16384, .inl rm))] H := hP
        have hD : va_D A [(aT, .inr (11, [.ref bG, .ref bS, .ref bM, .int rl, .int rk, .int rr, .int re, .int rc, .int rd, .int ra, .int rb, .int (if (if (if ((upd rs 5 ((rs 5) - (1 : Int32))) 5) = (0 : Int32) then (1 : Int32) else (0 : Int32)) = (f_Ref_bit p0 (1 : Int32)) then (1 : Int32) else (0 : Int32)) = (0 : Int32) then (((upd rs 5 ((rs 5) - (1 : Int32))) 0) + (4 : Int32)) else (if p2 = (0 : Int32) then p1 else (((upd rs 5 ((rs 5) - (1 : Int32))) 0) + p1))), .int rf, .int rw])), (bG, .inl (dG, 32, .inl rg)), (bS, .inl (dS, 48, .inl (upd rs 5 ((rs 5) - (1 : Int32))))), (bM, .inl (dM, 16384, .inl rm))] := hD
        have ef : f_Ref_branch p0 p1 p2 rs rc ra = ((upd rs 5 ((rs 5) - (1 : Int32))), (if (if (if ((upd rs 5 ((rs 5) - (1 : Int32))) 5) = (0 : Int32) then (1 : Int32) else (0 : Int32)) = (f_Ref_bit p0 (1 : Int32)) then (1 : Int32) else (0 : Int32)) = (0 : Int32) then (((upd rs 5 ((rs 5) - (1 : Int32))) 0) + (4 : Int32)) else (if p2 = (0 : Int32) then p1 else (((upd rs 5 ((rs 5) - (1 : Int32))) 0) + p1)))) := by unfold f_Ref_branch; rw [if_pos h4, if_neg h71, if_neg h75]
        exact k_vret hx hb hr hlocks hK hP hD hS [0, 1, 2, 3] rfl (by rw [ef] <;> rfl) d_Ref_branch_150
      · refine lv_aload_n hx hb d_Ref_branch_100 rfl (lv_at hl 1 rfl) ?_
        refine va_get (D := D) (ci := 11) (v := .ref bS) (C := "MappedProcessorModel") (T := T_Ref) (N := 14) hx hb hB iw_Ref hown hK hP 0 rfl rfl 1 (by decide) (hB _ mw_644) (fun _ h9 => h9) rfl d_Ref_branch_101 ?_
        refine lv_iconst (v := (4 : Int32)) hx hb d_Ref_branch_104 (by decide) ?_
        refine lv_aload_n hx hb d_Ref_branch_105 rfl (lv_at hl 1 rfl) ?_
        refine va_get (D := D) (ci := 11) (v := .ref bS) (C := "MappedProcessorModel") (T := T_Ref) (N := 14) hx hb hB iw_Ref hown hK hP 0 rfl rfl 1 (by decide) (hB _ mw_644) (fun _ h9 => h9) rfl d_Ref_branch_106 ?_
        refine lv_iconst (v := (0 : Int32)) hx hb d_Ref_branch_109 (by decide) ?_
        refine k_iald (j := 0) hx hb hK hP 2 1 rfl rfl (by decide) (by unfold vp_in; decide) d_Ref_branch_110 ?_
        refine lv_iconst (v := (4 : Int32)) hx hb d_Ref_branch_111 (by decide) ?_
        refine lv_iadd hx hb d_Ref_branch_112 ?_
        refine k_iast (j := 4) hx hb hK hP hD hS 2 1 rfl rfl (by decide) (by unfold vp_in; decide) d_Ref_branch_113 (fun H locs hP hD hS => ?_)
        have hP : va_P D kCl [(aT, .inr (11, [.ref bG, .ref bS, .ref bM, .int rl, .int rk, .int rr, .int re, .int rc, .int rd, .int ra, .int rb, .int rn, .int rf, .int rw])), (bG, .inl (dG, 32, .inl rg)), (bS, .inl (dS, 48, .inl (upd (upd rs 5 ((rs 5) - (1 : Int32))) 4 (((upd rs 5 ((rs 5) - (1 : Int32))) 0) + (4 : Int32))))), (bM, .inl (dM, 16384, .inl rm))] H := hP
        have hD : va_D A [(aT, .inr (11, [.ref bG, .ref bS, .ref bM, .int rl, .int rk, .int rr, .int re, .int rc, .int rd, .int ra, .int rb, .int rn, .int rf, .int rw])), (bG, .inl (dG, 32, .inl rg)), (bS, .inl (dS, 48, .inl (upd (upd rs 5 ((rs 5) - (1 : Int32))) 4 (((upd rs 5 ((rs 5) - (1 : Int32))) 0) + (4 : Int32))))), (bM, .inl (dM, 16384, .inl rm))] := hD
        refine lv_aload_n hx hb d_Ref_branch_114 rfl (lv_at hl 1 rfl) ?_
        refine lv_iload hx hb d_Ref_branch_115 (lv_at hl 0 rfl) ?_
        refine k_join2 (c0 := (if (if ((upd rs 5 ((rs 5) - (1 : Int32))) 5) = (0 : Int32) then (1 : Int32) else (0 : Int32)) = (f_Ref_bit p0 (1 : Int32)) then (1 : Int32) else (0 : Int32)) = (0 : Int32)) (x1 := (((upd (upd rs 5 ((rs 5) - (1 : Int32))) 4 (((upd rs 5 ((rs 5) - (1 : Int32))) 0) + (4 : Int32))) 0) + (4 : Int32))) (x2 := (if p2 = (0 : Int32) then p1 else (((upd (upd rs 5 ((rs 5) - (1 : Int32))) 4 (((upd rs 5 ((rs 5) - (1 : Int32))) 0) + (4 : Int32))) 0) + p1))) (rest := [.ref aT]) 147 ?_ (fun k87 k88 => ?_)
        rotate_left
        · refine lv_if_ne (tgt := 131) hx hb d_Ref_branch_117 (by decide) (fun (h86 : ¬ (if (if ((upd rs 5 ((rs 5) - (1 : Int32))) 5) = (0 : Int32) then (1 : Int32) else (0 : Int32)) = (f_Ref_bit p0 (1 : Int32)) then (1 : Int32) else (0 : Int32)) = (0 : Int32)) => ?_) (fun (h86 : (if (if ((upd rs 5 ((rs 5) - (1 : Int32))) 5) = (0 : Int32) then (1 : Int32) else (0 : Int32)) = (f_Ref_bit p0 (1 : Int32)) then (1 : Int32) else (0 : Int32)) = (0 : Int32)) => ?_)
          · refine lv_iload_n hx hb d_Ref_branch_131 rfl (lv_at hl 4 rfl) ?_
            refine k_join2 (c0 := p2 = (0 : Int32)) (x1 := p1) (x2 := (((upd (upd rs 5 ((rs 5) - (1 : Int32))) 4 (((upd rs 5 ((rs 5) - (1 : Int32))) 0) + (4 : Int32))) 0) + p1)) (rest := [.ref aT]) 147 ?_ (fun k90 k91 => ?_)
            rotate_left
            · refine lv_if_eq (tgt := 146) hx hb d_Ref_branch_132 (by decide) (fun (h89 : p2 = (0 : Int32)) => ?_) (fun (h89 : ¬ p2 = (0 : Int32)) => ?_)
              · refine lv_iload_n hx hb d_Ref_branch_146 rfl (lv_at hl 3 rfl) ?_
                exact k90 h89
              · refine lv_aload_n hx hb d_Ref_branch_135 rfl (lv_at hl 1 rfl) ?_
                refine va_get (D := D) (ci := 11) (v := .ref bS) (C := "MappedProcessorModel") (T := T_Ref) (N := 14) hx hb hB iw_Ref hown hK hP 0 rfl rfl 1 (by decide) (hB _ mw_644) (fun _ h9 => h9) rfl d_Ref_branch_136 ?_
                refine lv_iconst (v := (0 : Int32)) hx hb d_Ref_branch_139 (by decide) ?_
                refine k_iald (j := 0) hx hb hK hP 2 1 rfl rfl (by decide) (by unfold vp_in; decide) d_Ref_branch_140 ?_
                refine lv_iload_n hx hb d_Ref_branch_141 rfl (lv_at hl 3 rfl) ?_
                refine lv_iadd hx hb d_Ref_branch_142 ?_
                refine lv_goto (tgt := 147) hx hb d_Ref_branch_143 (by decide) ?_
                exact k91 h89
            exact k88 h86
          · refine lv_aload_n hx hb d_Ref_branch_120 rfl (lv_at hl 1 rfl) ?_
            refine va_get (D := D) (ci := 11) (v := .ref bS) (C := "MappedProcessorModel") (T := T_Ref) (N := 14) hx hb hB iw_Ref hown hK hP 0 rfl rfl 1 (by decide) (hB _ mw_644) (fun _ h9 => h9) rfl d_Ref_branch_121 ?_
            refine lv_iconst (v := (0 : Int32)) hx hb d_Ref_branch_124 (by decide) ?_
            refine k_iald (j := 0) hx hb hK hP 2 1 rfl rfl (by decide) (by unfold vp_in; decide) d_Ref_branch_125 ?_
            refine lv_iconst (v := (4 : Int32)) hx hb d_Ref_branch_126 (by decide) ?_
            refine lv_iadd hx hb d_Ref_branch_127 ?_
            refine lv_goto (tgt := 147) hx hb d_Ref_branch_128 (by decide) ?_
            exact k87 h86
        refine va_put (D := D) (ci := 11) (v := .int (if (if (if ((upd rs 5 ((rs 5) - (1 : Int32))) 5) = (0 : Int32) then (1 : Int32) else (0 : Int32)) = (f_Ref_bit p0 (1 : Int32)) then (1 : Int32) else (0 : Int32)) = (0 : Int32) then (((upd (upd rs 5 ((rs 5) - (1 : Int32))) 4 (((upd rs 5 ((rs 5) - (1 : Int32))) 0) + (4 : Int32))) 0) + (4 : Int32)) else (if p2 = (0 : Int32) then p1 else (((upd (upd rs 5 ((rs 5) - (1 : Int32))) 4 (((upd rs 5 ((rs 5) - (1 : Int32))) 0) + (4 : Int32))) 0) + p1)))) (ty := .int) (C := "MappedProcessorModel") (T := T_Ref) (N := 14) hx hb hB iw_Ref ty_Ref ty_Ref_ok nm_Ref hown hK hP hD hS 0 rfl rfl 11 (by decide) (hB _ mw_654) (fun _ h9 => h9) rfl (by decide +kernel) rfl rfl (Nat.le_of_ble_eq_true rfl) d_Ref_branch_147 (fun H locs hP hD hS => ?_)
        have hP : va_P D kCl [(aT, .inr (11, [.ref bG, .ref bS, .ref bM, .int rl, .int rk, .int rr, .int re, .int rc, .int rd, .int ra, .int rb, .int (if (if (if ((upd rs 5 ((rs 5) - (1 : Int32))) 5) = (0 : Int32) then (1 : Int32) else (0 : Int32)) = (f_Ref_bit p0 (1 : Int32)) then (1 : Int32) else (0 : Int32)) = (0 : Int32) then (((upd (upd rs 5 ((rs 5) - (1 : Int32))) 4 (((upd rs 5 ((rs 5) - (1 : Int32))) 0) + (4 : Int32))) 0) + (4 : Int32)) else (if p2 = (0 : Int32) then p1 else (((upd (upd rs 5 ((rs 5) - (1 : Int32))) 4 (((upd rs 5 ((rs 5) - (1 : Int32))) 0) + (4 : Int32))) 0) + p1))), .int rf, .int rw])), (bG, .inl (dG, 32, .inl rg)), (bS, .inl (dS, 48, .inl (upd (upd rs 5 ((rs 5) - (1 : Int32))) 4 (((upd rs 5 ((rs 5) - (1 : Int32))) 0) + (4 : Int32))))), (bM, .inl (dM, 16384, .inl rm))] H := hP
        have hD : va_D A [(aT, .inr (11, [.ref bG, .ref bS, .ref bM, .int rl, .int rk, .int rr, .int re, .int rc, .int rd, .int ra, .int rb, .int (if (if (if ((upd rs 5 ((rs 5) - (1 : Int32))) 5) = (0 : Int32) then (1 : Int32) else (0 : Int32)) = (f_Ref_bit p0 (1 : Int32)) then (1 : Int32) else (0 : Int32)) = (0 : Int32) then (((upd (upd rs 5 ((rs 5) - (1 : Int32))) 4 (((upd rs 5 ((rs 5) - (1 : Int32))) 0) + (4 : Int32))) 0) + (4 : Int32)) else (if p2 = (0 : Int32) then p1 else (((upd (upd rs 5 ((rs 5) - (1 : Int32))) 4 (((upd rs 5 ((rs 5) - (1 : Int32))) 0) + (4 : Int32))) 0) + p1))), .int rf, .int rw])), (bG, .inl (dG, 32, .inl rg)), (bS, .inl (dS, 48, .inl (upd (upd rs 5 ((rs 5) - (1 : Int32))) 4 (((upd rs 5 ((rs 5) - (1 : Int32))) 0) + (4 : Int32))))), (bM, .inl (dM, 16384, .inl rm))] := hD
        have ef : f_Ref_branch p0 p1 p2 rs rc ra = ((upd (upd rs 5 ((rs 5) - (1 : Int32))) 4 (((upd rs 5 ((rs 5) - (1 : Int32))) 0) + (4 : Int32))), (if (if (if ((upd rs 5 ((rs 5) - (1 : Int32))) 5) = (0 : Int32) then (1 : Int32) else (0 : Int32)) = (f_Ref_bit p0 (1 : Int32)) then (1 : Int32) else (0 : Int32)) = (0 : Int32) then (((upd (upd rs 5 ((rs 5) - (1 : Int32))) 4 (((upd rs 5 ((rs 5) - (1 : Int32))) 0) + (4 : Int32))) 0) + (4 : Int32)) else (if p2 = (0 : Int32) then p1 else (((upd (upd rs 5 ((rs 5) - (1 : Int32))) 4 (((upd rs 5 ((rs 5) - (1 : Int32))) 0) + (4 : Int32))) 0) + p1)))) := by unfold f_Ref_branch; rw [if_pos h4, if_neg h71, if_pos h75]
        exact k_vret hx hb hr hlocks hK hP hD hS [0, 1, 2, 3] rfl (by rw [ef] <;> rfl) d_Ref_branch_150
    · refine lv_iload hx hb d_Ref_branch_62 (lv_at hl 0 rfl) ?_
      refine lv_if_eq (tgt := 87) hx hb d_Ref_branch_64 (by decide) (fun (h99 : (if (if ((upd rs 5 ((rs 5) - (1 : Int32))) 5) = (0 : Int32) then (1 : Int32) else (0 : Int32)) = (f_Ref_bit p0 (1 : Int32)) then (1 : Int32) else (0 : Int32)) = (0 : Int32)) => ?_) (fun (h99 : ¬ (if (if ((upd rs 5 ((rs 5) - (1 : Int32))) 5) = (0 : Int32) then (1 : Int32) else (0 : Int32)) = (f_Ref_bit p0 (1 : Int32)) then (1 : Int32) else (0 : Int32)) = (0 : Int32)) => ?_)
      · refine lv_iconst (v := (0 : Int32)) hx hb d_Ref_branch_87 (by decide) ?_
        refine lv_istore (lv' := [(4, .int (0 : Int32)), (0, .ref aT), (1, .int p0), (2, .int p1), (3, .int p2)]) hx hb d_Ref_branch_88 hl (by decide) rfl (fun ls hl => ?_)
        refine lv_aload_n hx hb d_Ref_branch_90 rfl (lv_at hl 1 rfl) ?_
        refine va_get (D := D) (ci := 11) (v := .int rc) (C := "MappedProcessorModel") (T := T_Ref) (N := 14) hx hb hB iw_Ref hown hK hP 0 rfl rfl 7 (by decide) (hB _ mw_650) (fun _ h9 => h9) rfl d_Ref_branch_91 ?_
        refine lv_iconst (v := (1 : Int32)) hx hb d_Ref_branch_94 (by decide) ?_
        refine lv_iand hx hb d_Ref_branch_95 ?_
        refine lv_iconst (v := (1 : Int32)) hx hb d_Ref_branch_96 (by decide) ?_
        refine lv_icmp_ne (tgt := 114) hx hb d_Ref_branch_97 (by decide) (fun (h103 : ¬ (rc &&& (1 : Int32)) = (1 : Int32)) => ?_) (fun (h103 : (rc &&& (1 : Int32)) = (1 : Int32)) => ?_)
        · refine lv_aload_n hx hb d_Ref_branch_114 rfl (lv_at hl 1 rfl) ?_
          refine lv_iload hx hb d_Ref_branch_115 (lv_at hl 0 rfl) ?_
          refine lv_if_ne (tgt := 131) hx hb d_Ref_branch_117 (by decide) (fun h104 => ?_) (fun h104 => ?_)
          · exact absurd (by decide) h104
          refine lv_aload_n hx hb d_Ref_branch_120 rfl (lv_at hl 1 rfl) ?_
          refine va_get (D := D) (ci := 11) (v := .ref bS) (C := "MappedProcessorModel") (T := T_Ref) (N := 14) hx hb hB iw_Ref hown hK hP 0 rfl rfl 1 (by decide) (hB _ mw_644) (fun _ h9 => h9) rfl d_Ref_branch_121 ?_
          refine lv_iconst (v := (0 : Int32)) hx hb d_Ref_branch_124 (by decide) ?_
          refine k_iald (j := 0) hx hb hK hP 2 1 rfl rfl (by decide) (by unfold vp_in; decide) d_Ref_branch_125 ?_
          refine lv_iconst (v := (4 : Int32)) hx hb d_Ref_branch_126 (by decide) ?_
          refine lv_iadd hx hb d_Ref_branch_127 ?_
          refine lv_goto (tgt := 147) hx hb d_Ref_branch_128 (by decide) ?_
          refine va_put (D := D) (ci := 11) (v := .int (((upd rs 5 ((rs 5) - (1 : Int32))) 0) + (4 : Int32))) (ty := .int) (C := "MappedProcessorModel") (T := T_Ref) (N := 14) hx hb hB iw_Ref ty_Ref ty_Ref_ok nm_Ref hown hK hP hD hS 0 rfl rfl 11 (by decide) (hB _ mw_654) (fun _ h9 => h9) rfl (by decide +kernel) rfl rfl (Nat.le_of_ble_eq_true rfl) d_Ref_branch_147 (fun H locs hP hD hS => ?_)
          have hP : va_P D kCl [(aT, .inr (11, [.ref bG, .ref bS, .ref bM, .int rl, .int rk, .int rr, .int re, .int rc, .int rd, .int ra, .int rb, .int (((upd rs 5 ((rs 5) - (1 : Int32))) 0) + (4 : Int32)), .int rf, .int rw])), (bG, .inl (dG, 32, .inl rg)), (bS, .inl (dS, 48, .inl (upd rs 5 ((rs 5) - (1 : Int32))))), (bM, .inl (dM, 16384, .inl rm))] H := hP
          have hD : va_D A [(aT, .inr (11, [.ref bG, .ref bS, .ref bM, .int rl, .int rk, .int rr, .int re, .int rc, .int rd, .int ra, .int rb, .int (((upd rs 5 ((rs 5) - (1 : Int32))) 0) + (4 : Int32)), .int rf, .int rw])), (bG, .inl (dG, 32, .inl rg)), (bS, .inl (dS, 48, .inl (upd rs 5 ((rs 5) - (1 : Int32))))), (bM, .inl (dM, 16384, .inl rm))] := hD
          have ef : f_Ref_branch p0 p1 p2 rs rc ra = ((upd rs 5 ((rs 5) - (1 : Int32))), (((upd rs 5 ((rs 5) - (1 : Int32))) 0) + (4 : Int32))) := by unfold f_Ref_branch; rw [if_pos h4, if_pos h71, if_pos h99, if_neg h103]
          exact k_vret hx hb hr hlocks hK hP hD hS [0, 1, 2, 3] rfl (by rw [ef] <;> rfl) d_Ref_branch_150
        · refine lv_aload_n hx hb d_Ref_branch_100 rfl (lv_at hl 1 rfl) ?_
          refine va_get (D := D) (ci := 11) (v := .ref bS) (C := "MappedProcessorModel") (T := T_Ref) (N := 14) hx hb hB iw_Ref hown hK hP 0 rfl rfl 1 (by decide) (hB _ mw_644) (fun _ h9 => h9) rfl d_Ref_branch_101 ?_
          refine lv_iconst (v := (4 : Int32)) hx hb d_Ref_branch_104 (by decide) ?_
          refine lv_aload_n hx hb d_Ref_branch_105 rfl (lv_at hl 1 rfl) ?_
          refine va_get (D := D) (ci := 11) (v := .ref bS) (C := "MappedProcessorModel") (T := T_Ref) (N := 14) hx hb hB iw_Ref hown hK hP 0 rfl rfl 1 (by decide) (hB _ mw_644) (fun _ h9 => h9) rfl d_Ref_branch_106 ?_
          refine lv_iconst (v := (0 : Int32)) hx hb d_Ref_branch_109 (by decide) ?_
          refine k_iald (j := 0) hx hb hK hP 2 1 rfl rfl (by decide) (by unfold vp_in; decide) d_Ref_branch_110 ?_
          refine lv_iconst (v := (4 : Int32)) hx hb d_Ref_branch_111 (by decide) ?_
          refine lv_iadd hx hb d_Ref_branch_112 ?_
          refine k_iast (j := 4) hx hb hK hP hD hS 2 1 rfl rfl (by decide) (by unfold vp_in; decide) d_Ref_branch_113 (fun H locs hP hD hS => ?_)
          have hP : va_P D kCl [(aT, .inr (11, [.ref bG, .ref bS, .ref bM, .int rl, .int rk, .int rr, .int re, .int rc, .int rd, .int ra, .int rb, .int rn, .int rf, .int rw])), (bG, .inl (dG, 32, .inl rg)), (bS, .inl (dS, 48, .inl (upd (upd rs 5 ((rs 5) - (1 : Int32))) 4 (((upd rs 5 ((rs 5) - (1 : Int32))) 0) + (4 : Int32))))), (bM, .inl (dM, 16384, .inl rm))] H := hP
          have hD : va_D A [(aT, .inr (11, [.ref bG, .ref bS, .ref bM, .int rl, .int rk, .int rr, .int re, .int rc, .int rd, .int ra, .int rb, .int rn, .int rf, .int rw])), (bG, .inl (dG, 32, .inl rg)), (bS, .inl (dS, 48, .inl (upd (upd rs 5 ((rs 5) - (1 : Int32))) 4 (((upd rs 5 ((rs 5) - (1 : Int32))) 0) + (4 : Int32))))), (bM, .inl (dM, 16384, .inl rm))] := hD
          refine lv_aload_n hx hb d_Ref_branch_114 rfl (lv_at hl 1 rfl) ?_
          refine lv_iload hx hb d_Ref_branch_115 (lv_at hl 0 rfl) ?_
          refine lv_if_ne (tgt := 131) hx hb d_Ref_branch_117 (by decide) (fun h105 => ?_) (fun h105 => ?_)
          · exact absurd (by decide) h105
          refine lv_aload_n hx hb d_Ref_branch_120 rfl (lv_at hl 1 rfl) ?_
          refine va_get (D := D) (ci := 11) (v := .ref bS) (C := "MappedProcessorModel") (T := T_Ref) (N := 14) hx hb hB iw_Ref hown hK hP 0 rfl rfl 1 (by decide) (hB _ mw_644) (fun _ h9 => h9) rfl d_Ref_branch_121 ?_
          refine lv_iconst (v := (0 : Int32)) hx hb d_Ref_branch_124 (by decide) ?_
          refine k_iald (j := 0) hx hb hK hP 2 1 rfl rfl (by decide) (by unfold vp_in; decide) d_Ref_branch_125 ?_
          refine lv_iconst (v := (4 : Int32)) hx hb d_Ref_branch_126 (by decide) ?_
          refine lv_iadd hx hb d_Ref_branch_127 ?_
          refine lv_goto (tgt := 147) hx hb d_Ref_branch_128 (by decide) ?_
          refine va_put (D := D) (ci := 11) (v := .int (((upd (upd rs 5 ((rs 5) - (1 : Int32))) 4 (((upd rs 5 ((rs 5) - (1 : Int32))) 0) + (4 : Int32))) 0) + (4 : Int32))) (ty := .int) (C := "MappedProcessorModel") (T := T_Ref) (N := 14) hx hb hB iw_Ref ty_Ref ty_Ref_ok nm_Ref hown hK hP hD hS 0 rfl rfl 11 (by decide) (hB _ mw_654) (fun _ h9 => h9) rfl (by decide +kernel) rfl rfl (Nat.le_of_ble_eq_true rfl) d_Ref_branch_147 (fun H locs hP hD hS => ?_)
          have hP : va_P D kCl [(aT, .inr (11, [.ref bG, .ref bS, .ref bM, .int rl, .int rk, .int rr, .int re, .int rc, .int rd, .int ra, .int rb, .int (((upd (upd rs 5 ((rs 5) - (1 : Int32))) 4 (((upd rs 5 ((rs 5) - (1 : Int32))) 0) + (4 : Int32))) 0) + (4 : Int32)), .int rf, .int rw])), (bG, .inl (dG, 32, .inl rg)), (bS, .inl (dS, 48, .inl (upd (upd rs 5 ((rs 5) - (1 : Int32))) 4 (((upd rs 5 ((rs 5) - (1 : Int32))) 0) + (4 : Int32))))), (bM, .inl (dM, 16384, .inl rm))] H := hP
          have hD : va_D A [(aT, .inr (11, [.ref bG, .ref bS, .ref bM, .int rl, .int rk, .int rr, .int re, .int rc, .int rd, .int ra, .int rb, .int (((upd (upd rs 5 ((rs 5) - (1 : Int32))) 4 (((upd rs 5 ((rs 5) - (1 : Int32))) 0) + (4 : Int32))) 0) + (4 : Int32)), .int rf, .int rw])), (bG, .inl (dG, 32, .inl rg)), (bS, .inl (dS, 48, .inl (upd (upd rs 5 ((rs 5) - (1 : Int32))) 4 (((upd rs 5 ((rs 5) - (1 : Int32))) 0) + (4 : Int32))))), (bM, .inl (dM, 16384, .inl rm))] := hD
          have ef : f_Ref_branch p0 p1 p2 rs rc ra = ((upd (upd rs 5 ((rs 5) - (1 : Int32))) 4 (((upd rs 5 ((rs 5) - (1 : Int32))) 0) + (4 : Int32))), (((upd (upd rs 5 ((rs 5) - (1 : Int32))) 4 (((upd rs 5 ((rs 5) - (1 : Int32))) 0) + (4 : Int32))) 0) + (4 : Int32))) := by unfold f_Ref_branch; rw [if_pos h4, if_pos h71, if_pos h99, if_pos h103]
          exact k_vret hx hb hr hlocks hK hP hD hS [0, 1, 2, 3] rfl (by rw [ef] <;> rfl) d_Ref_branch_150
      · refine lv_aload_n hx hb d_Ref_branch_67 rfl (lv_at hl 1 rfl) ?_
        refine lv_aload_n hx hb d_Ref_branch_68 rfl (lv_at hl 1 rfl) ?_
        refine va_get (D := D) (ci := 11) (v := .int ra) (C := "MappedProcessorModel") (T := T_Ref) (N := 14) hx hb hB iw_Ref hown hK hP 0 rfl rfl 9 (by decide) (hB _ mw_652) (fun _ h9 => h9) rfl d_Ref_branch_69 ?_
        refine k_cVi (As := [.int ra]) (rest := []) (wr := []) (wj := [(aT, .inr (11, [.ref bG, .ref bS, .ref bM, .int rl, .int rk, .int rr, .int re, .int rc, .int rd, .int ra, .int rb, .int rn, .int rf, .int rw])), (bG, .inl (dG, 32, .inl rg)), (bS, .inl (dS, 48, .inl (upd rs 5 ((rs 5) - (1 : Int32))))), (bM, .inl (dM, 16384, .inl rm))]) ⟨hx, hb, hml, hown, hB⟩ (c_Ref_crBit l D aT bG bS bM dG dS dM rg (upd rs 5 ((rs 5) - (1 : Int32))) rm rl rk rr re rc rd ra rb rn rf rw ra) yl_Ref_crBit mw_810 hK hN hP hD hS hA [0, 1, 2] [0, 1, 2, 3] [] [0, 1, 2, 3] rfl rfl rfl rfl (by decide +kernel) 0 rfl rfl rfl rfl hl.1 rfl (Nat.le_of_ble_eq_true rfl) ⟨Nat.le_of_ble_eq_true rfl, Nat.le_of_ble_eq_true rfl⟩ d_Ref_branch_72 ⟨Nat.le_of_ble_eq_true rfl, Nat.le_of_ble_eq_true rfl⟩ (fun H locs hP hD hS => ?_)
        refine lv_iload_n hx hb d_Ref_branch_75 rfl (lv_at hl 2 rfl) ?_
        refine lv_iconst (v := (3 : Int32)) hx hb d_Ref_branch_76 (by decide) ?_
        refine k_cSi (As := [.int p0, .int (3 : Int32)]) (rest := [.int (f_Ref_crBit ra (upd rs 5 ((rs 5) - (1 : Int32))))]) (wr := [(aT, .inr (11, [.ref bG, .ref bS, .ref bM, .int rl, .int rk, .int rr, .int re, .int rc, .int rd, .int ra, .int rb, .int rn, .int rf, .int rw])), (bG, .inl (dG, 32, .inl rg)), (bS, .inl (dS, 48, .inl (upd rs 5 ((rs 5) - (1 : Int32))))), (bM, .inl (dM, 16384, .inl rm))]) (wj := [(aT, .inr (11, [.ref bG, .ref bS, .ref bM, .int rl, .int rk, .int rr, .int re, .int rc, .int rd, .int ra, .int rb, .int rn, .int rf, .int rw])), (bG, .inl (dG, 32, .inl rg)), (bS, .inl (dS, 48, .inl (upd rs 5 ((rs 5) - (1 : Int32))))), (bM, .inl (dM, 16384, .inl rm))]) ⟨hx, hb, hml, hown, hB⟩ (c_Ref_bit l D p0 (3 : Int32)) yl_Ref_bit mw_725 hK hN hP hD hS hA [] [] [0, 1, 2, 3] [0, 1, 2, 3] rfl rfl rfl rfl (by decide +kernel) rfl hl.1 rfl (Nat.le_of_ble_eq_true rfl) ⟨Nat.le_of_ble_eq_true rfl, Nat.le_of_ble_eq_true rfl⟩ d_Ref_branch_77 ⟨Nat.le_of_ble_eq_true rfl, Nat.le_of_ble_eq_true rfl⟩ (fun H locs hP hD hS => ?_)
        refine k_join2 (c0 := (f_Ref_crBit ra (upd rs 5 ((rs 5) - (1 : Int32)))) = (f_Ref_bit p0 (3 : Int32))) (x1 := (1 : Int32)) (x2 := (0 : Int32)) (rest := []) 88 ?_ (fun k107 k108 => ?_)
        rotate_left
        · refine lv_icmp_ne (tgt := 87) hx hb d_Ref_branch_80 (by decide) (fun (h106 : ¬ (f_Ref_crBit ra (upd rs 5 ((rs 5) - (1 : Int32)))) = (f_Ref_bit p0 (3 : Int32))) => ?_) (fun (h106 : (f_Ref_crBit ra (upd rs 5 ((rs 5) - (1 : Int32)))) = (f_Ref_bit p0 (3 : Int32))) => ?_)
          · refine lv_iconst (v := (0 : Int32)) hx hb d_Ref_branch_87 (by decide) ?_
            exact k108 h106
          · refine lv_iconst (v := (1 : Int32)) hx hb d_Ref_branch_83 (by decide) ?_
            refine lv_goto (tgt := 88) hx hb d_Ref_branch_84 (by decide) ?_
            exact k107 h106
        refine lv_istore (lv' := [(4, .int (if (f_Ref_crBit ra (upd rs 5 ((rs 5) - (1 : Int32)))) = (f_Ref_bit p0 (3 : Int32)) then (1 : Int32) else (0 : Int32))), (0, .ref aT), (1, .int p0), (2, .int p1), (3, .int p2)]) hx hb d_Ref_branch_88 hl (by decide) rfl (fun ls hl => ?_)
        refine lv_aload_n hx hb d_Ref_branch_90 rfl (lv_at hl 1 rfl) ?_
        refine va_get (D := D) (ci := 11) (v := .int rc) (C := "MappedProcessorModel") (T := T_Ref) (N := 14) hx hb hB iw_Ref hown hK hP 0 rfl rfl 7 (by decide) (hB _ mw_650) (fun _ h9 => h9) rfl d_Ref_branch_91 ?_
        refine lv_iconst (v := (1 : Int32)) hx hb d_Ref_branch_94 (by decide) ?_
        refine lv_iand hx hb d_Ref_branch_95 ?_
        refine lv_iconst (v := (1 : Int32)) hx hb d_Ref_branch_96 (by decide) ?_
        refine lv_icmp_ne (tgt := 114) hx hb d_Ref_branch_97 (by decide) (fun (h114 : ¬ (rc &&& (1 : Int32)) = (1 : Int32)) => ?_) (fun (h114 : (rc &&& (1 : Int32)) = (1 : Int32)) => ?_)
        · refine lv_aload_n hx hb d_Ref_branch_114 rfl (lv_at hl 1 rfl) ?_
          refine lv_iload hx hb d_Ref_branch_115 (lv_at hl 0 rfl) ?_
          refine k_join2 (c0 := (if (f_Ref_crBit ra (upd rs 5 ((rs 5) - (1 : Int32)))) = (f_Ref_bit p0 (3 : Int32)) then (1 : Int32) else (0 : Int32)) = (0 : Int32)) (x1 := (((upd rs 5 ((rs 5) - (1 : Int32))) 0) + (4 : Int32))) (x2 := (if p2 = (0 : Int32) then p1 else (((upd rs 5 ((rs 5) - (1 : Int32))) 0) + p1))) (rest := [.ref aT]) 147 ?_ (fun k116 k117 => ?_)
          rotate_left
          · refine lv_if_ne (tgt := 131) hx hb d_Ref_branch_117 (by decide) (fun (h115 : ¬ (if (f_Ref_crBit ra (upd rs 5 ((rs 5) - (1 : Int32)))) = (f_Ref_bit p0 (3 : Int32)) then (1 : Int32) else (0 : Int32)) = (0 : Int32)) => ?_) (fun (h115 : (if (f_Ref_crBit ra (upd rs 5 ((rs 5) - (1 : Int32)))) = (f_Ref_bit p0 (3 : Int32)) then (1 : Int32) else (0 : Int32)) = (0 : Int32)) => ?_)
            · refine lv_iload_n hx hb d_Ref_branch_131 rfl (lv_at hl 4 rfl) ?_
              refine k_join2 (c0 := p2 = (0 : Int32)) (x1 := p1) (x2 := (((upd rs 5 ((rs 5) - (1 : Int32))) 0) + p1)) (rest := [.ref aT]) 147 ?_ (fun k119 k120 => ?_)
              rotate_left
              · refine lv_if_eq (tgt := 146) hx hb d_Ref_branch_132 (by decide) (fun (h118 : p2 = (0 : Int32)) => ?_) (fun (h118 : ¬ p2 = (0 : Int32)) => ?_)
                · refine lv_iload_n hx hb d_Ref_branch_146 rfl (lv_at hl 3 rfl) ?_
                  exact k119 h118
                · refine lv_aload_n hx hb d_Ref_branch_135 rfl (lv_at hl 1 rfl) ?_
                  refine va_get (D := D) (ci := 11) (v := .ref bS) (C := "MappedProcessorModel") (T := T_Ref) (N := 14) hx hb hB iw_Ref hown hK hP 0 rfl rfl 1 (by decide) (hB _ mw_644) (fun _ h9 => h9) rfl d_Ref_branch_136 ?_
                  refine lv_iconst (v := (0 : Int32)) hx hb d_Ref_branch_139 (by decide) ?_
                  refine k_iald (j := 0) hx hb hK hP 2 1 rfl rfl (by decide) (by unfold vp_in; decide) d_Ref_branch_140 ?_
                  refine lv_iload_n hx hb d_Ref_branch_141 rfl (lv_at hl 3 rfl) ?_
                  refine lv_iadd hx hb d_Ref_branch_142 ?_
                  refine lv_goto (tgt := 147) hx hb d_Ref_branch_143 (by decide) ?_
                  exact k120 h118
              exact k117 h115
            · refine lv_aload_n hx hb d_Ref_branch_120 rfl (lv_at hl 1 rfl) ?_
              refine va_get (D := D) (ci := 11) (v := .ref bS) (C := "MappedProcessorModel") (T := T_Ref) (N := 14) hx hb hB iw_Ref hown hK hP 0 rfl rfl 1 (by decide) (hB _ mw_644) (fun _ h9 => h9) rfl d_Ref_branch_121 ?_
              refine lv_iconst (v := (0 : Int32)) hx hb d_Ref_branch_124 (by decide) ?_
              refine k_iald (j := 0) hx hb hK hP 2 1 rfl rfl (by decide) (by unfold vp_in; decide) d_Ref_branch_125 ?_
              refine lv_iconst (v := (4 : Int32)) hx hb d_Ref_branch_126 (by decide) ?_
              refine lv_iadd hx hb d_Ref_branch_127 ?_
              refine lv_goto (tgt := 147) hx hb d_Ref_branch_128 (by decide) ?_
              exact k116 h115
          refine va_put (D := D) (ci := 11) (v := .int (if (if (f_Ref_crBit ra (upd rs 5 ((rs 5) - (1 : Int32)))) = (f_Ref_bit p0 (3 : Int32)) then (1 : Int32) else (0 : Int32)) = (0 : Int32) then (((upd rs 5 ((rs 5) - (1 : Int32))) 0) + (4 : Int32)) else (if p2 = (0 : Int32) then p1 else (((upd rs 5 ((rs 5) - (1 : Int32))) 0) + p1)))) (ty := .int) (C := "MappedProcessorModel") (T := T_Ref) (N := 14) hx hb hB iw_Ref ty_Ref ty_Ref_ok nm_Ref hown hK hP hD hS 0 rfl rfl 11 (by decide) (hB _ mw_654) (fun _ h9 => h9) rfl (by decide +kernel) rfl rfl (Nat.le_of_ble_eq_true rfl) d_Ref_branch_147 (fun H locs hP hD hS => ?_)
          have hP : va_P D kCl [(aT, .inr (11, [.ref bG, .ref bS, .ref bM, .int rl, .int rk, .int rr, .int re, .int rc, .int rd, .int ra, .int rb, .int (if (if (f_Ref_crBit ra (upd rs 5 ((rs 5) - (1 : Int32)))) = (f_Ref_bit p0 (3 : Int32)) then (1 : Int32) else (0 : Int32)) = (0 : Int32) then (((upd rs 5 ((rs 5) - (1 : Int32))) 0) + (4 : Int32)) else (if p2 = (0 : Int32) then p1 else (((upd rs 5 ((rs 5) - (1 : Int32))) 0) + p1))), .int rf, .int rw])), (bG, .inl (dG, 32, .inl rg)), (bS, .inl (dS, 48, .inl (upd rs 5 ((rs 5) - (1 : Int32))))), (bM, .inl (dM, 16384, .inl rm))] H := hP
          have hD : va_D A [(aT, .inr (11, [.ref bG, .ref bS, .ref bM, .int rl, .int rk, .int rr, .int re, .int rc, .int rd, .int ra, .int rb, .int (if (if (f_Ref_crBit ra (upd rs 5 ((rs 5) - (1 : Int32)))) = (f_Ref_bit p0 (3 : Int32)) then (1 : Int32) else (0 : Int32)) = (0 : Int32) then (((upd rs 5 ((rs 5) - (1 : Int32))) 0) + (4 : Int32)) else (if p2 = (0 : Int32) then p1 else (((upd rs 5 ((rs 5) - (1 : Int32))) 0) + p1))), .int rf, .int rw])), (bG, .inl (dG, 32, .inl rg)), (bS, .inl (dS, 48, .inl (upd rs 5 ((rs 5) - (1 : Int32))))), (bM, .inl (dM, 16384, .inl rm))] := hD
          have ef : f_Ref_branch p0 p1 p2 rs rc ra = ((upd rs 5 ((rs 5) - (1 : Int32))), (if (if (f_Ref_crBit ra (upd rs 5 ((rs 5) - (1 : Int32)))) = (f_Ref_bit p0 (3 : Int32)) then (1 : Int32) else (0 : Int32)) = (0 : Int32) then (((upd rs 5 ((rs 5) - (1 : Int32))) 0) + (4 : Int32)) else (if p2 = (0 : Int32) then p1 else (((upd rs 5 ((rs 5) - (1 : Int32))) 0) + p1)))) := by unfold f_Ref_branch; rw [if_pos h4, if_pos h71, if_neg h99, if_neg h114]
          exact k_vret hx hb hr hlocks hK hP hD hS [0, 1, 2, 3] rfl (by rw [ef] <;> rfl) d_Ref_branch_150
        · refine lv_aload_n hx hb d_Ref_branch_100 rfl (lv_at hl 1 rfl) ?_
          refine va_get (D := D) (ci := 11) (v := .ref bS) (C := "MappedProcessorModel") (T := T_Ref) (N := 14) hx hb hB iw_Ref hown hK hP 0 rfl rfl 1 (by decide) (hB _ mw_644) (fun _ h9 => h9) rfl d_Ref_branch_101 ?_
          refine lv_iconst (v := (4 : Int32)) hx hb d_Ref_branch_104 (by decide) ?_
          refine lv_aload_n hx hb d_Ref_branch_105 rfl (lv_at hl 1 rfl) ?_
          refine va_get (D := D) (ci := 11) (v := .ref bS) (C := "MappedProcessorModel") (T := T_Ref) (N := 14) hx hb hB iw_Ref hown hK hP 0 rfl rfl 1 (by decide) (hB _ mw_644) (fun _ h9 => h9) rfl d_Ref_branch_106 ?_
          refine lv_iconst (v := (0 : Int32)) hx hb d_Ref_branch_109 (by decide) ?_
          refine k_iald (j := 0) hx hb hK hP 2 1 rfl rfl (by decide) (by unfold vp_in; decide) d_Ref_branch_110 ?_
          refine lv_iconst (v := (4 : Int32)) hx hb d_Ref_branch_111 (by decide) ?_
          refine lv_iadd hx hb d_Ref_branch_112 ?_
          refine k_iast (j := 4) hx hb hK hP hD hS 2 1 rfl rfl (by decide) (by unfold vp_in; decide) d_Ref_branch_113 (fun H locs hP hD hS => ?_)
          have hP : va_P D kCl [(aT, .inr (11, [.ref bG, .ref bS, .ref bM, .int rl, .int rk, .int rr, .int re, .int rc, .int rd, .int ra, .int rb, .int rn, .int rf, .int rw])), (bG, .inl (dG, 32, .inl rg)), (bS, .inl (dS, 48, .inl (upd (upd rs 5 ((rs 5) - (1 : Int32))) 4 (((upd rs 5 ((rs 5) - (1 : Int32))) 0) + (4 : Int32))))), (bM, .inl (dM, 16384, .inl rm))] H := hP
          have hD : va_D A [(aT, .inr (11, [.ref bG, .ref bS, .ref bM, .int rl, .int rk, .int rr, .int re, .int rc, .int rd, .int ra, .int rb, .int rn, .int rf, .int rw])), (bG, .inl (dG, 32, .inl rg)), (bS, .inl (dS, 48, .inl (upd (upd rs 5 ((rs 5) - (1 : Int32))) 4 (((upd rs 5 ((rs 5) - (1 : Int32))) 0) + (4 : Int32))))), (bM, .inl (dM, 16384, .inl rm))] := hD
          refine lv_aload_n hx hb d_Ref_branch_114 rfl (lv_at hl 1 rfl) ?_
          refine lv_iload hx hb d_Ref_branch_115 (lv_at hl 0 rfl) ?_
          refine k_join2 (c0 := (if (f_Ref_crBit ra (upd rs 5 ((rs 5) - (1 : Int32)))) = (f_Ref_bit p0 (3 : Int32)) then (1 : Int32) else (0 : Int32)) = (0 : Int32)) (x1 := (((upd (upd rs 5 ((rs 5) - (1 : Int32))) 4 (((upd rs 5 ((rs 5) - (1 : Int32))) 0) + (4 : Int32))) 0) + (4 : Int32))) (x2 := (if p2 = (0 : Int32) then p1 else (((upd (upd rs 5 ((rs 5) - (1 : Int32))) 4 (((upd rs 5 ((rs 5) - (1 : Int32))) 0) + (4 : Int32))) 0) + p1))) (rest := [.ref aT]) 147 ?_ (fun k126 k127 => ?_)
          rotate_left
          · refine lv_if_ne (tgt := 131) hx hb d_Ref_branch_117 (by decide) (fun (h125 : ¬ (if (f_Ref_crBit ra (upd rs 5 ((rs 5) - (1 : Int32)))) = (f_Ref_bit p0 (3 : Int32)) then (1 : Int32) else (0 : Int32)) = (0 : Int32)) => ?_) (fun (h125 : (if (f_Ref_crBit ra (upd rs 5 ((rs 5) - (1 : Int32)))) = (f_Ref_bit p0 (3 : Int32)) then (1 : Int32) else (0 : Int32)) = (0 : Int32)) => ?_)
            · refine lv_iload_n hx hb d_Ref_branch_131 rfl (lv_at hl 4 rfl) ?_
              refine k_join2 (c0 := p2 = (0 : Int32)) (x1 := p1) (x2 := (((upd (upd rs 5 ((rs 5) - (1 : Int32))) 4 (((upd rs 5 ((rs 5) - (1 : Int32))) 0) + (4 : Int32))) 0) + p1)) (rest := [.ref aT]) 147 ?_ (fun k129 k130 => ?_)
              rotate_left
              · refine lv_if_eq (tgt := 146) hx hb d_Ref_branch_132 (by decide) (fun (h128 : p2 = (0 : Int32)) => ?_) (fun (h128 : ¬ p2 = (0 : Int32)) => ?_)
                · refine lv_iload_n hx hb d_Ref_branch_146 rfl (lv_at hl 3 rfl) ?_
                  exact k129 h128
                · refine lv_aload_n hx hb d_Ref_branch_135 rfl (lv_at hl 1 rfl) ?_
                  refine va_get (D := D) (ci := 11) (v := .ref bS) (C := "MappedProcessorModel") (T := T_Ref) (N := 14) hx hb hB iw_Ref hown hK hP 0 rfl rfl 1 (by decide) (hB _ mw_644) (fun _ h9 => h9) rfl d_Ref_branch_136 ?_
                  refine lv_iconst (v := (0 : Int32)) hx hb d_Ref_branch_139 (by decide) ?_
                  refine k_iald (j := 0) hx hb hK hP 2 1 rfl rfl (by decide) (by unfold vp_in; decide) d_Ref_branch_140 ?_
                  refine lv_iload_n hx hb d_Ref_branch_141 rfl (lv_at hl 3 rfl) ?_
                  refine lv_iadd hx hb d_Ref_branch_142 ?_
                  refine lv_goto (tgt := 147) hx hb d_Ref_branch_143 (by decide) ?_
                  exact k130 h128
              exact k127 h125
            · refine lv_aload_n hx hb d_Ref_branch_120 rfl (lv_at hl 1 rfl) ?_
              refine va_get (D := D) (ci := 11) (v := .ref bS) (C := "MappedProcessorModel") (T := T_Ref) (N := 14) hx hb hB iw_Ref hown hK hP 0 rfl rfl 1 (by decide) (hB _ mw_644) (fun _ h9 => h9) rfl d_Ref_branch_121 ?_
              refine lv_iconst (v := (0 : Int32)) hx hb d_Ref_branch_124 (by decide) ?_
              refine k_iald (j := 0) hx hb hK hP 2 1 rfl rfl (by decide) (by unfold vp_in; decide) d_Ref_branch_125 ?_
              refine lv_iconst (v := (4 : Int32)) hx hb d_Ref_branch_126 (by decide) ?_
              refine lv_iadd hx hb d_Ref_branch_127 ?_
              refine lv_goto (tgt := 147) hx hb d_Ref_branch_128 (by decide) ?_
              exact k126 h125
          refine va_put (D := D) (ci := 11) (v := .int (if (if (f_Ref_crBit ra (upd rs 5 ((rs 5) - (1 : Int32)))) = (f_Ref_bit p0 (3 : Int32)) then (1 : Int32) else (0 : Int32)) = (0 : Int32) then (((upd (upd rs 5 ((rs 5) - (1 : Int32))) 4 (((upd rs 5 ((rs 5) - (1 : Int32))) 0) + (4 : Int32))) 0) + (4 : Int32)) else (if p2 = (0 : Int32) then p1 else (((upd (upd rs 5 ((rs 5) - (1 : Int32))) 4 (((upd rs 5 ((rs 5) - (1 : Int32))) 0) + (4 : Int32))) 0) + p1)))) (ty := .int) (C := "MappedProcessorModel") (T := T_Ref) (N := 14) hx hb hB iw_Ref ty_Ref ty_Ref_ok nm_Ref hown hK hP hD hS 0 rfl rfl 11 (by decide) (hB _ mw_654) (fun _ h9 => h9) rfl (by decide +kernel) rfl rfl (Nat.le_of_ble_eq_true rfl) d_Ref_branch_147 (fun H locs hP hD hS => ?_)
          have hP : va_P D kCl [(aT, .inr (11, [.ref bG, .ref bS, .ref bM, .int rl, .int rk, .int rr, .int re, .int rc, .int rd, .int ra, .int rb, .int (if (if (f_Ref_crBit ra (upd rs 5 ((rs 5) - (1 : Int32)))) = (f_Ref_bit p0 (3 : Int32)) then (1 : Int32) else (0 : Int32)) = (0 : Int32) then (((upd (upd rs 5 ((rs 5) - (1 : Int32))) 4 (((upd rs 5 ((rs 5) - (1 : Int32))) 0) + (4 : Int32))) 0) + (4 : Int32)) else (if p2 = (0 : Int32) then p1 else (((upd (upd rs 5 ((rs 5) - (1 : Int32))) 4 (((upd rs 5 ((rs 5) - (1 : Int32))) 0) + (4 : Int32))) 0) + p1))), .int rf, .int rw])), (bG, .inl (dG, 32, .inl rg)), (bS, .inl (dS, 48, .inl (upd (upd rs 5 ((rs 5) - (1 : Int32))) 4 (((upd rs 5 ((rs 5) - (1 : Int32))) 0) + (4 : Int32))))), (bM, .inl (dM, 16384, .inl rm))] H := hP
          have hD : va_D A [(aT, .inr (11, [.ref bG, .ref bS, .ref bM, .int rl, .int rk, .int rr, .int re, .int rc, .int rd, .int ra, .int rb, .int (if (if (f_Ref_crBit ra (upd rs 5 ((rs 5) - (1 : Int32)))) = (f_Ref_bit p0 (3 : Int32)) then (1 : Int32) else (0 : Int32)) = (0 : Int32) then (((upd (upd rs 5 ((rs 5) - (1 : Int32))) 4 (((upd rs 5 ((rs 5) - (1 : Int32))) 0) + (4 : Int32))) 0) + (4 : Int32)) else (if p2 = (0 : Int32) then p1 else (((upd (upd rs 5 ((rs 5) - (1 : Int32))) 4 (((upd rs 5 ((rs 5) - (1 : Int32))) 0) + (4 : Int32))) 0) + p1))), .int rf, .int rw])), (bG, .inl (dG, 32, .inl rg)), (bS, .inl (dS, 48, .inl (upd (upd rs 5 ((rs 5) - (1 : Int32))) 4 (((upd rs 5 ((rs 5) - (1 : Int32))) 0) + (4 : Int32))))), (bM, .inl (dM, 16384, .inl rm))] := hD
          have ef : f_Ref_branch p0 p1 p2 rs rc ra = ((upd (upd rs 5 ((rs 5) - (1 : Int32))) 4 (((upd rs 5 ((rs 5) - (1 : Int32))) 0) + (4 : Int32))), (if (if (f_Ref_crBit ra (upd rs 5 ((rs 5) - (1 : Int32)))) = (f_Ref_bit p0 (3 : Int32)) then (1 : Int32) else (0 : Int32)) = (0 : Int32) then (((upd (upd rs 5 ((rs 5) - (1 : Int32))) 4 (((upd rs 5 ((rs 5) - (1 : Int32))) 0) + (4 : Int32))) 0) + (4 : Int32)) else (if p2 = (0 : Int32) then p1 else (((upd (upd rs 5 ((rs 5) - (1 : Int32))) 4 (((upd rs 5 ((rs 5) - (1 : Int32))) 0) + (4 : Int32))) 0) + p1)))) := by unfold f_Ref_branch; rw [if_pos h4, if_pos h71, if_neg h99, if_pos h114]
          exact k_vret hx hb hr hlocks hK hP hD hS [0, 1, 2, 3] rfl (by rw [ef] <;> rfl) d_Ref_branch_150
/-! MappedProcessorModel.crSet(IZ)V -/
theorem d_Ref_crSet_0 : decode b_Ref_crSet 0 = .ok (.iconst 1, 1) := by decide +kernel
theorem d_Ref_crSet_1 : decode b_Ref_crSet 1 = .ok (.bipush 31, 2) := by decide +kernel
theorem d_Ref_crSet_3 : decode b_Ref_crSet 3 = .ok (.iload_n 1, 1) := by decide +kernel
theorem d_Ref_crSet_4 : decode b_Ref_crSet 4 = .ok (.isub, 1) := by decide +kernel
theorem d_Ref_crSet_5 : decode b_Ref_crSet 5 = .ok (.ishl, 1) := by decide +kernel
theorem d_Ref_crSet_6 : decode b_Ref_crSet 6 = .ok (.istore_n 3, 1) := by decide +kernel
theorem d_Ref_crSet_7 : decode b_Ref_crSet 7 = .ok (.aload_n 0, 1) := by decide +kernel
theorem d_Ref_crSet_8 : decode b_Ref_crSet 8 = .ok (.getfield 13, 3) := by decide +kernel
theorem d_Ref_crSet_11 : decode b_Ref_crSet 11 = .ok (.iconst 2, 1) := by decide +kernel
theorem d_Ref_crSet_12 : decode b_Ref_crSet 12 = .ok (.iload_n 2, 1) := by decide +kernel
theorem d_Ref_crSet_13 : decode b_Ref_crSet 13 = .ok (.ifCond .eq 14, 3) := by decide +kernel
theorem d_Ref_crSet_16 : decode b_Ref_crSet 16 = .ok (.aload_n 0, 1) := by decide +kernel
theorem d_Ref_crSet_17 : decode b_Ref_crSet 17 = .ok (.getfield 13, 3) := by decide +kernel
theorem d_Ref_crSet_20 : decode b_Ref_crSet 20 = .ok (.iconst 2, 1) := by decide +kernel
theorem d_Ref_crSet_21 : decode b_Ref_crSet 21 = .ok (.iaload, 1) := by decide +kernel
theorem d_Ref_crSet_22 : decode b_Ref_crSet 22 = .ok (.iload_n 3, 1) := by decide +kernel
theorem d_Ref_crSet_23 : decode b_Ref_crSet 23 = .ok (.ior, 1) := by decide +kernel
theorem d_Ref_crSet_24 : decode b_Ref_crSet 24 = .ok (.goto 13, 3) := by decide +kernel
theorem d_Ref_crSet_27 : decode b_Ref_crSet 27 = .ok (.aload_n 0, 1) := by decide +kernel
theorem d_Ref_crSet_28 : decode b_Ref_crSet 28 = .ok (.getfield 13, 3) := by decide +kernel
theorem d_Ref_crSet_31 : decode b_Ref_crSet 31 = .ok (.iconst 2, 1) := by decide +kernel
theorem d_Ref_crSet_32 : decode b_Ref_crSet 32 = .ok (.iaload, 1) := by decide +kernel
theorem d_Ref_crSet_33 : decode b_Ref_crSet 33 = .ok (.iload_n 3, 1) := by decide +kernel
theorem d_Ref_crSet_34 : decode b_Ref_crSet 34 = .ok (.iconst (-1), 1) := by decide +kernel
theorem d_Ref_crSet_35 : decode b_Ref_crSet 35 = .ok (.ixor, 1) := by decide +kernel
theorem d_Ref_crSet_36 : decode b_Ref_crSet 36 = .ok (.iand, 1) := by decide +kernel
theorem d_Ref_crSet_37 : decode b_Ref_crSet 37 = .ok (.iastore, 1) := by decide +kernel
theorem d_Ref_crSet_38 : decode b_Ref_crSet 38 = .ok (.return_, 1) := by decide +kernel
def f_Ref_crSet (p0 : Int32) (p1 : Int32) (rs : Nat → Int32) : (Nat → Int32) :=
  (upd rs 2 (if p1 = (0 : Int32) then ((rs 2) &&& ((shl (1 : Int32) ((31 : Int32) - p0)) ^^^ (-1 : Int32))) else ((rs 2) ||| (shl (1 : Int32) ((31 : Int32) - p0)))))
set_option maxHeartbeats 4000000 in
set_option maxRecDepth 100000 in
theorem c_Ref_crSet (l : Launch) (D : va_G) (aT bG bS bM : Nat) (dG dS dM : ClassId) (rg : Nat → Int32) (rs : Nat → Int32) (rm : Nat → Int32) (rl : Int32) (rk : Int32) (rr : Int32) (re : Int32) (rc : Int32) (rd : Int32) (ra : Int32) (rb : Int32) (rn : Int32) (rf : Int32) (rw : Int32) (p0 : Int32) (p1 : Int32) : kMv l y_Ref_crSet b_Ref_crSet 4 none 0 0 D kCl [(dG, .int), (dS, .int), (dM, .int)] [.ref aT, .int p0, .int p1] [(aT, .inr (11, [.ref bG, .ref bS, .ref bM, .int rl, .int rk, .int rr, .int re, .int rc, .int rd, .int ra, .int rb, .int rn, .int rf, .int rw])), (bG, .inl (dG, 32, .inl rg)), (bS, .inl (dS, 48, .inl rs)), (bM, .inl (dM, 16384, .inl rm))] [(aT, .inr (11, [.ref bG, .ref bS, .ref bM, .int rl, .int rk, .int rr, .int re, .int rc, .int rd, .int ra, .int rb, .int rn, .int rf, .int rw])), (bG, .inl (dG, 32, .inl rg)), (bS, .inl (dS, 48, .inl (f_Ref_crSet p0 p1 rs))), (bM, .inl (dM, 16384, .inl rm))] := by
  refine k_entry (Qc := fun A => kQv D kCl [(dG, .int), (dS, .int), (dM, .int)] [(aT, .inr (11, [.ref bG, .ref bS, .ref bM, .int rl, .int rk, .int rr, .int re, .int rc, .int rd, .int ra, .int rb, .int rn, .int rf, .int rw])), (bG, .inl (dG, 32, .inl rg)), (bS, .inl (dS, 48, .inl (f_Ref_crSet p0 p1 rs))), (bM, .inl (dM, 16384, .inl rm))] A) (lv := [(0, .ref aT), (1, .int p0), (2, .int p1)]) (by decide) (Nat.le_of_ble_eq_true rfl) rfl ?_
  intro p e s m below meth c A ls hx hb hr hml hB hown hlocks hin hA hK hN hP hD hS hl
  have hown : s.vm.findClass "MappedProcessorModel" = some m.cls := hown
  refine lv_iconst (v := (1 : Int32)) hx hb d_Ref_crSet_0 (by decide) ?_
  refine lv_bipush (v := (31 : Int32)) hx hb d_Ref_crSet_1 (by decide) ?_
  refine lv_iload_n hx hb d_Ref_crSet_3 rfl (lv_at hl 1 rfl) ?_
  refine lv_isub hx hb d_Ref_crSet_4 ?_
  refine lv_ishl hx hb d_Ref_crSet_5 ?_
  refine lv_istore_n (lv' := [(3, .int (shl (1 : Int32) ((31 : Int32) - p0))), (0, .ref aT), (1, .int p0), (2, .int p1)]) hx hb d_Ref_crSet_6 rfl hl (by decide) rfl (fun ls hl => ?_)
  refine lv_aload_n hx hb d_Ref_crSet_7 rfl (lv_at hl 1 rfl) ?_
  refine va_get (D := D) (ci := 11) (v := .ref bS) (C := "MappedProcessorModel") (T := T_Ref) (N := 14) hx hb hB iw_Ref hown hK hP 0 rfl rfl 1 (by decide) (hB _ mw_644) (fun _ h9 => h9) rfl d_Ref_crSet_8 ?_
  refine lv_iconst (v := (2 : Int32)) hx hb d_Ref_crSet_11 (by decide) ?_
  refine lv_iload_n hx hb d_Ref_crSet_12 rfl (lv_at hl 3 rfl) ?_
  refine k_join2 (c0 := p1 = (0 : Int32)) (x1 := ((rs 2) &&& ((shl (1 : Int32) ((31 : Int32) - p0)) ^^^ (-1 : Int32)))) (x2 := ((rs 2) ||| (shl (1 : Int32) ((31 : Int32) - p0)))) (rest := [.int (2 : Int32), .ref bS]) 37 ?_ (fun k2 k3 => ?_)
  rotate_left
  · refine lv_if_eq (tgt := 27) hx hb d_Ref_crSet_13 (by decide) (fun (h1 : p1 = (0 : Int32)) => ?_) (fun (h1 : ¬ p1 = (0 : Int32)) => ?_)
    · refine lv_aload_n hx hb d_Ref_crSet_27 rfl (lv_at hl 1 rfl) ?_
      refine va_get (D := D) (ci := 11) (v := .ref bS) (C := "MappedProcessorModel") (T := T_Ref) (N := 14) hx hb hB iw_Ref hown hK hP 0 rfl rfl 1 (by decide) (hB _ mw_644) (fun _ h9 => h9) rfl d_Ref_crSet_28 ?_
      refine lv_iconst (v := (2 : Int32)) hx hb d_Ref_crSet_31 (by decide) ?_
      refine k_iald (j := 2) hx hb hK hP 2 1 rfl rfl (by decide) (by unfold vp_in; decide) d_Ref_crSet_32 ?_
      refine lv_iload_n hx hb d_Ref_crSet_33 rfl (lv_at hl 0 rfl) ?_
      refine lv_iconst (v := (-1 : Int32)) hx hb d_Ref_crSet_34 (by decide) ?_
      refine lv_ixor hx hb d_Ref_crSet_35 ?_
      refine lv_iand hx hb d_Ref_crSet_36 ?_
      exact k2 h1
    · refine lv_aload_n hx hb d_Ref_crSet_16 rfl (lv_at hl 1 rfl) ?_
      refine va_get (D := D) (ci := 11) (v := .ref bS) (C := "MappedProcessorModel") (T := T_Ref) (N := 14) hx hb hB iw_Ref hown hK hP 0 rfl rfl 1 (by decide) (hB _ mw_644) (fun _ h9 => h9) rfl d_Ref_crSet_17 ?_
      refine lv_iconst (v := (2 : Int32)) hx hb d_Ref_crSet_20 (by decide) ?_
      refine k_iald (j := 2) hx hb hK hP 2 1 rfl rfl (by decide) (by unfold vp_in; decide) d_Ref_crSet_21 ?_
      refine lv_iload_n hx hb d_Ref_crSet_22 rfl (lv_at hl 0 rfl) ?_
      refine lv_ior hx hb d_Ref_crSet_23 ?_
      refine lv_goto (tgt := 37) hx hb d_Ref_crSet_24 (by decide) ?_
      exact k3 h1
  refine k_iast (j := 2) hx hb hK hP hD hS 2 1 rfl rfl (by decide) (by unfold vp_in; decide) d_Ref_crSet_37 (fun H locs hP hD hS => ?_)
  have hP : va_P D kCl [(aT, .inr (11, [.ref bG, .ref bS, .ref bM, .int rl, .int rk, .int rr, .int re, .int rc, .int rd, .int ra, .int rb, .int rn, .int rf, .int rw])), (bG, .inl (dG, 32, .inl rg)), (bS, .inl (dS, 48, .inl (upd rs 2 (if p1 = (0 : Int32) then ((rs 2) &&& ((shl (1 : Int32) ((31 : Int32) - p0)) ^^^ (-1 : Int32))) else ((rs 2) ||| (shl (1 : Int32) ((31 : Int32) - p0))))))), (bM, .inl (dM, 16384, .inl rm))] H := hP
  have hD : va_D A [(aT, .inr (11, [.ref bG, .ref bS, .ref bM, .int rl, .int rk, .int rr, .int re, .int rc, .int rd, .int ra, .int rb, .int rn, .int rf, .int rw])), (bG, .inl (dG, 32, .inl rg)), (bS, .inl (dS, 48, .inl (upd rs 2 (if p1 = (0 : Int32) then ((rs 2) &&& ((shl (1 : Int32) ((31 : Int32) - p0)) ^^^ (-1 : Int32))) else ((rs 2) ||| (shl (1 : Int32) ((31 : Int32) - p0))))))), (bM, .inl (dM, 16384, .inl rm))] := hD
  have ef : f_Ref_crSet p0 p1 rs = (upd rs 2 (if p1 = (0 : Int32) then ((rs 2) &&& ((shl (1 : Int32) ((31 : Int32) - p0)) ^^^ (-1 : Int32))) else ((rs 2) ||| (shl (1 : Int32) ((31 : Int32) - p0))))) := rfl
  exact k_vret hx hb hr hlocks hK hP hD hS [0, 1, 2, 3] rfl (by rw [ef] <;> rfl) d_Ref_crSet_38
/-! MappedProcessorModel.conditions(I)V -/
theorem d_Ref_conditions_0 : decode b_Ref_conditions 0 = .ok (.aload_n 0, 1) := by decide +kernel
theorem d_Ref_conditions_1 : decode b_Ref_conditions 1 = .ok (.aload_n 0, 1) := by decide +kernel
theorem d_Ref_conditions_2 : decode b_Ref_conditions 2 = .ok (.getfield 85, 3) := by decide +kernel
theorem d_Ref_conditions_5 : decode b_Ref_conditions 5 = .ok (.invokevirtual 157, 3) := by decide +kernel
theorem d_Ref_conditions_8 : decode b_Ref_conditions 8 = .ok (.istore_n 2, 1) := by decide +kernel
theorem d_Ref_conditions_9 : decode b_Ref_conditions 9 = .ok (.aload_n 0, 1) := by decide +kernel
theorem d_Ref_conditions_10 : decode b_Ref_conditions 10 = .ok (.aload_n 0, 1) := by decide +kernel
theorem d_Ref_conditions_11 : decode b_Ref_conditions 11 = .ok (.getfield 88, 3) := by decide +kernel
theorem d_Ref_conditions_14 : decode b_Ref_conditions 14 = .ok (.invokevirtual 157, 3) := by decide +kernel
theorem d_Ref_conditions_17 : decode b_Ref_conditions 17 = .ok (.istore_n 3, 1) := by decide +kernel
theorem d_Ref_conditions_18 : decode b_Ref_conditions 18 = .ok (.iload_n 1, 1) := by decide +kernel
theorem d_Ref_conditions_19 : decode b_Ref_conditions 19 = .ok (.bipush 16, 2) := by decide +kernel
theorem d_Ref_conditions_21 : decode b_Ref_conditions 21 = .ok (.if_icmp .ne 24, 3) := by decide +kernel
theorem d_Ref_conditions_24 : decode b_Ref_conditions 24 = .ok (.aload_n 0, 1) := by decide +kernel
theorem d_Ref_conditions_25 : decode b_Ref_conditions 25 = .ok (.aload_n 0, 1) := by decide +kernel
theorem d_Ref_conditions_26 : decode b_Ref_conditions 26 = .ok (.getfield 82, 3) := by decide +kernel
theorem d_Ref_conditions_29 : decode b_Ref_conditions 29 = .ok (.aload_n 0, 1) := by decide +kernel
theorem d_Ref_conditions_30 : decode b_Ref_conditions 30 = .ok (.getfield 13, 3) := by decide +kernel
theorem d_Ref_conditions_33 : decode b_Ref_conditions 33 = .ok (.iconst 4, 1) := by decide +kernel
theorem d_Ref_conditions_34 : decode b_Ref_conditions 34 = .ok (.iaload, 1) := by decide +kernel
theorem d_Ref_conditions_35 : decode b_Ref_conditions 35 = .ok (.bipush (-4), 2) := by decide +kernel
theorem d_Ref_conditions_37 : decode b_Ref_conditions 37 = .ok (.iand, 1) := by decide +kernel
theorem d_Ref_conditions_38 : decode b_Ref_conditions 38 = .ok (.iconst 0, 1) := by decide +kernel
theorem d_Ref_conditions_39 : decode b_Ref_conditions 39 = .ok (.invokevirtual 126, 3) := by decide +kernel
theorem d_Ref_conditions_42 : decode b_Ref_conditions 42 = .ok (.goto 180, 3) := by decide +kernel
theorem d_Ref_conditions_45 : decode b_Ref_conditions 45 = .ok (.iload_n 1, 1) := by decide +kernel
theorem d_Ref_conditions_46 : decode b_Ref_conditions 46 = .ok (.sipush 528, 3) := by decide +kernel
theorem d_Ref_conditions_49 : decode b_Ref_conditions 49 = .ok (.if_icmp .ne 26, 3) := by decide +kernel
theorem d_Ref_conditions_52 : decode b_Ref_conditions 52 = .ok (.aload_n 0, 1) := by decide +kernel
theorem d_Ref_conditions_53 : decode b_Ref_conditions 53 = .ok (.aload_n 0, 1) := by decide +kernel
theorem d_Ref_conditions_54 : decode b_Ref_conditions 54 = .ok (.getfield 82, 3) := by decide +kernel
theorem d_Ref_conditions_57 : decode b_Ref_conditions 57 = .ok (.iconst 4, 1) := by decide +kernel
theorem d_Ref_conditions_58 : decode b_Ref_conditions 58 = .ok (.ior, 1) := by decide +kernel
theorem d_Ref_conditions_59 : decode b_Ref_conditions 59 = .ok (.aload_n 0, 1) := by decide +kernel
theorem d_Ref_conditions_60 : decode b_Ref_conditions 60 = .ok (.getfield 13, 3) := by decide +kernel
theorem d_Ref_conditions_63 : decode b_Ref_conditions 63 = .ok (.iconst 5, 1) := by decide +kernel
theorem d_Ref_conditions_64 : decode b_Ref_conditions 64 = .ok (.iaload, 1) := by decide +kernel
theorem d_Ref_conditions_65 : decode b_Ref_conditions 65 = .ok (.bipush (-4), 2) := by decide +kernel
theorem d_Ref_conditions_67 : decode b_Ref_conditions 67 = .ok (.iand, 1) := by decide +kernel
theorem d_Ref_conditions_68 : decode b_Ref_conditions 68 = .ok (.iconst 0, 1) := by decide +kernel
theorem d_Ref_conditions_69 : decode b_Ref_conditions 69 = .ok (.invokevirtual 126, 3) := by decide +kernel
theorem d_Ref_conditions_72 : decode b_Ref_conditions 72 = .ok (.goto 150, 3) := by decide +kernel
theorem d_Ref_conditions_75 : decode b_Ref_conditions 75 = .ok (.iload_n 1, 1) := by decide +kernel
theorem d_Ref_conditions_76 : decode b_Ref_conditions 76 = .ok (.sipush 257, 3) := by decide +kernel
theorem d_Ref_conditions_79 : decode b_Ref_conditions 79 = .ok (.if_icmp .ne 27, 3) := by decide +kernel
theorem d_Ref_conditions_82 : decode b_Ref_conditions 82 = .ok (.aload_n 0, 1) := by decide +kernel
theorem d_Ref_conditions_83 : decode b_Ref_conditions 83 = .ok (.aload_n 0, 1) := by decide +kernel
theorem d_Ref_conditions_84 : decode b_Ref_conditions 84 = .ok (.getfield 82, 3) := by decide +kernel
theorem d_Ref_conditions_87 : decode b_Ref_conditions 87 = .ok (.iload_n 2, 1) := by decide +kernel
theorem d_Ref_conditions_88 : decode b_Ref_conditions 88 = .ok (.ifCond .eq 11, 3) := by decide +kernel
theorem d_Ref_conditions_91 : decode b_Ref_conditions 91 = .ok (.iload_n 3, 1) := by decide +kernel
theorem d_Ref_conditions_92 : decode b_Ref_conditions 92 = .ok (.ifCond .eq 7, 3) := by decide +kernel
theorem d_Ref_conditions_95 : decode b_Ref_conditions 95 = .ok (.iconst 1, 1) := by decide +kernel
theorem d_Ref_conditions_96 : decode b_Ref_conditions 96 = .ok (.goto 4, 3) := by decide +kernel
theorem d_Ref_conditions_99 : decode b_Ref_conditions 99 = .ok (.iconst 0, 1) := by decide +kernel
theorem d_Ref_conditions_100 : decode b_Ref_conditions 100 = .ok (.invokevirtual 161, 3) := by decide +kernel
theorem d_Ref_conditions_103 : decode b_Ref_conditions 103 = .ok (.goto 119, 3) := by decide +kernel
theorem d_Ref_conditions_106 : decode b_Ref_conditions 106 = .ok (.iload_n 1, 1) := by decide +kernel
theorem d_Ref_conditions_107 : decode b_Ref_conditions 107 = .ok (.sipush 449, 3) := by decide +kernel
theorem d_Ref_conditions_110 : decode b_Ref_conditions 110 = .ok (.if_icmp .ne 27, 3) := by decide +kernel
theorem d_Ref_conditions_113 : decode b_Ref_conditions 113 = .ok (.aload_n 0, 1) := by decide +kernel
theorem d_Ref_conditions_114 : decode b_Ref_conditions 114 = .ok (.aload_n 0, 1) := by decide +kernel
theorem d_Ref_conditions_115 : decode b_Ref_conditions 115 = .ok (.getfield 82, 3) := by decide +kernel
theorem d_Ref_conditions_118 : decode b_Ref_conditions 118 = .ok (.iload_n 2, 1) := by decide +kernel
theorem d_Ref_conditions_119 : decode b_Ref_conditions 119 = .ok (.ifCond .ne 7, 3) := by decide +kernel
theorem d_Ref_conditions_122 : decode b_Ref_conditions 122 = .ok (.iload_n 3, 1) := by decide +kernel
theorem d_Ref_conditions_123 : decode b_Ref_conditions 123 = .ok (.ifCond .eq 7, 3) := by decide +kernel
theorem d_Ref_conditions_126 : decode b_Ref_conditions 126 = .ok (.iconst 1, 1) := by decide +kernel
theorem d_Ref_conditions_127 : decode b_Ref_conditions 127 = .ok (.goto 4, 3) := by decide +kernel
theorem d_Ref_conditions_130 : decode b_Ref_conditions 130 = .ok (.iconst 0, 1) := by decide +kernel
theorem d_Ref_conditions_131 : decode b_Ref_conditions 131 = .ok (.invokevirtual 161, 3) := by decide +kernel
theorem d_Ref_conditions_134 : decode b_Ref_conditions 134 = .ok (.goto 88, 3) := by decide +kernel
theorem d_Ref_conditions_137 : decode b_Ref_conditions 137 = .ok (.iload_n 1, 1) := by decide +kernel
theorem d_Ref_conditions_138 : decode b_Ref_conditions 138 = .ok (.sipush 193, 3) := by decide +kernel
theorem d_Ref_conditions_141 : decode b_Ref_conditions 141 = .ok (.if_icmp .ne 24, 3) := by decide +kernel
theorem d_Ref_conditions_144 : decode b_Ref_conditions 144 = .ok (.aload_n 0, 1) := by decide +kernel
theorem d_Ref_conditions_145 : decode b_Ref_conditions 145 = .ok (.aload_n 0, 1) := by decide +kernel
theorem d_Ref_conditions_146 : decode b_Ref_conditions 146 = .ok (.getfield 82, 3) := by decide +kernel
theorem d_Ref_conditions_149 : decode b_Ref_conditions 149 = .ok (.iload_n 2, 1) := by decide +kernel
theorem d_Ref_conditions_150 : decode b_Ref_conditions 150 = .ok (.iload_n 3, 1) := by decide +kernel
theorem d_Ref_conditions_151 : decode b_Ref_conditions 151 = .ok (.if_icmp .eq 7, 3) := by decide +kernel
theorem d_Ref_conditions_154 : decode b_Ref_conditions 154 = .ok (.iconst 1, 1) := by decide +kernel
theorem d_Ref_conditions_155 : decode b_Ref_conditions 155 = .ok (.goto 4, 3) := by decide +kernel
theorem d_Ref_conditions_158 : decode b_Ref_conditions 158 = .ok (.iconst 0, 1) := by decide +kernel
theorem d_Ref_conditions_159 : decode b_Ref_conditions 159 = .ok (.invokevirtual 161, 3) := by decide +kernel
theorem d_Ref_conditions_162 : decode b_Ref_conditions 162 = .ok (.goto 60, 3) := by decide +kernel
theorem d_Ref_conditions_165 : decode b_Ref_conditions 165 = .ok (.iload_n 1, 1) := by decide +kernel
theorem d_Ref_conditions_166 : decode b_Ref_conditions 166 = .ok (.bipush 50, 2) := by decide +kernel
theorem d_Ref_conditions_168 : decode b_Ref_conditions 168 = .ok (.if_icmp .ne 43, 3) := by decide +kernel
theorem d_Ref_conditions_171 : decode b_Ref_conditions 171 = .ok (.aload_n 0, 1) := by decide +kernel
theorem d_Ref_conditions_172 : decode b_Ref_conditions 172 = .ok (.invokevirtual 165, 3) := by decide +kernel
theorem d_Ref_conditions_175 : decode b_Ref_conditions 175 = .ok (.ifCond .ne 47, 3) := by decide +kernel
theorem d_Ref_conditions_178 : decode b_Ref_conditions 178 = .ok (.aload_n 0, 1) := by decide +kernel
theorem d_Ref_conditions_179 : decode b_Ref_conditions 179 = .ok (.getfield 13, 3) := by decide +kernel
theorem d_Ref_conditions_182 : decode b_Ref_conditions 182 = .ok (.iconst 1, 1) := by decide +kernel
theorem d_Ref_conditions_183 : decode b_Ref_conditions 183 = .ok (.aload_n 0, 1) := by decide +kernel
theorem d_Ref_conditions_184 : decode b_Ref_conditions 184 = .ok (.getfield 13, 3) := by decide +kernel
theorem d_Ref_conditions_187 : decode b_Ref_conditions 187 = .ok (.bipush 7, 2) := by decide +kernel
theorem d_Ref_conditions_189 : decode b_Ref_conditions 189 = .ok (.iaload, 1) := by decide +kernel
theorem d_Ref_conditions_190 : decode b_Ref_conditions 190 = .ok (.ldc 42, 2) := by decide +kernel
theorem d_Ref_conditions_192 : decode b_Ref_conditions 192 = .ok (.iand, 1) := by decide +kernel
theorem d_Ref_conditions_193 : decode b_Ref_conditions 193 = .ok (.iastore, 1) := by decide +kernel
theorem d_Ref_conditions_194 : decode b_Ref_conditions 194 = .ok (.aload_n 0, 1) := by decide +kernel
theorem d_Ref_conditions_195 : decode b_Ref_conditions 195 = .ok (.aload_n 0, 1) := by decide +kernel
theorem d_Ref_conditions_196 : decode b_Ref_conditions 196 = .ok (.getfield 13, 3) := by decide +kernel
theorem d_Ref_conditions_199 : decode b_Ref_conditions 199 = .ok (.bipush 6, 2) := by decide +kernel
theorem d_Ref_conditions_201 : decode b_Ref_conditions 201 = .ok (.iaload, 1) := by decide +kernel
theorem d_Ref_conditions_202 : decode b_Ref_conditions 202 = .ok (.bipush (-4), 2) := by decide +kernel
theorem d_Ref_conditions_204 : decode b_Ref_conditions 204 = .ok (.iand, 1) := by decide +kernel
theorem d_Ref_conditions_205 : decode b_Ref_conditions 205 = .ok (.putfield 50, 3) := by decide +kernel
theorem d_Ref_conditions_208 : decode b_Ref_conditions 208 = .ok (.goto 14, 3) := by decide +kernel
theorem d_Ref_conditions_211 : decode b_Ref_conditions 211 = .ok (.iload_n 1, 1) := by decide +kernel
theorem d_Ref_conditions_212 : decode b_Ref_conditions 212 = .ok (.sipush 150, 3) := by decide +kernel
theorem d_Ref_conditions_215 : decode b_Ref_conditions 215 = .ok (.if_icmp .eq 7, 3) := by decide +kernel
theorem d_Ref_conditions_218 : decode b_Ref_conditions 218 = .ok (.aload_n 0, 1) := by decide +kernel
theorem d_Ref_conditions_219 : decode b_Ref_conditions 219 = .ok (.invokevirtual 145, 3) := by decide +kernel
theorem d_Ref_conditions_222 : decode b_Ref_conditions 222 = .ok (.return_, 1) := by decide +kernel
def f_Ref_conditions (p0 : Int32) (rs : Nat → Int32) (rl : Int32) (rc : Int32) (rd : Int32) (ra : Int32) (rb : Int32) (rn : Int32) (rf : Int32) : (Nat → Int32) × Int32 × Int32 × Int32 :=
  if p0 = (16 : Int32) then
    let t124 := (f_Ref_branch rd ((rs 4) &&& (-4 : Int32)) (0 : Int32) rs rc ra)
    (t124.1, rl, t124.2, rf)
  else
    if p0 = (528 : Int32) then
      let t123 := (f_Ref_branch (rd ||| (4 : Int32)) ((rs 5) &&& (-4 : Int32)) (0 : Int32) rs rc ra)
      (t123.1, rl, t123.2, rf)
    else
      if p0 = (257 : Int32) then
        ((f_Ref_crSet rd (if (f_Ref_crBit ra rs) = (0 : Int32) then (0 : Int32) else (if (f_Ref_crBit rb rs) = (0 : Int32) then (0 : Int32) else (1 : Int32))) rs), rl, rn, rf)
      else
        if p0 = (449 : Int32) then
          ((f_Ref_crSet rd (if (f_Ref_crBit ra rs) = (0 : Int32) then (if (f_Ref_crBit rb rs) = (0 : Int32) then (0 : Int32) else (1 : Int32)) else (1 : Int32)) rs), rl, rn, rf)
        else
          if p0 = (193 : Int32) then
            ((f_Ref_crSet rd (if (f_Ref_crBit ra rs) = (f_Ref_crBit rb rs) then (0 : Int32) else (1 : Int32)) rs), rl, rn, rf)
          else
            if p0 = (50 : Int32) then
              let t93 := (f_Ref_barred rs rl rn rf)
              if t93.1 = (0 : Int32) then
                ((upd t93.2.1 1 ((t93.2.1 7) &&& (65535 : Int32))), t93.2.2.1, (((upd t93.2.1 1 ((t93.2.1 7) &&& (65535 : Int32))) 6) &&& (-4 : Int32)), t93.2.2.2.2)
              else
                (t93.2.1, t93.2.2.1, t93.2.2.2.1, t93.2.2.2.2)
            else
              if p0 = (150 : Int32) then
                (rs, rl, rn, rf)
              else
                let t92 := (f_Ref_unlisted rs)
                (t92.1, t92.2.1, t92.2.2.1, t92.2.2.2)
def rq_Ref_conditions (z : (Nat → Int32) × Int32 × Int32 × Int32) : Prop := isB z.2.2.2
set_option maxHeartbeats 4000000 in
set_option maxRecDepth 100000 in
theorem rq0_Ref_conditions (p0 : Int32) (rs : Nat → Int32) (rl : Int32) (rc : Int32) (rd : Int32) (ra : Int32) (rb : Int32) (rn : Int32) (rf : Int32) (h : isB rf) : rq_Ref_conditions (f_Ref_conditions p0 rs rl rc rd ra rb rn rf) := by
  unfold f_Ref_conditions
  try dsimp only
  repeat' (with_reducible refine pred_ite ?_ ?_)
  all_goals (unfold rq_Ref_conditions)
  all_goals (try dsimp only)
  all_goals first | with_reducible exact h | with_reducible exact ib0 | with_reducible exact ib1 | with_reducible exact rb_Ref_unlisted _ | exact rb_Ref_barred _ _ _ _ (by first | with_reducible exact h | with_reducible exact ib0 | with_reducible exact ib1 | with_reducible exact rb_Ref_unlisted _ | exact rb_Ref_barred _ _ _ _ (by first | with_reducible exact h | with_reducible exact ib0 | with_reducible exact ib1 | with_reducible exact rb_Ref_unlisted _))
theorem rb_Ref_conditions (p0 : Int32) (rs : Nat → Int32) (rl : Int32) (rc : Int32) (rd : Int32) (ra : Int32) (rb : Int32) (rn : Int32) (rf : Int32) (h : isB rf) : isB (f_Ref_conditions p0 rs rl rc rd ra rb rn rf).2.2.2 := rq0_Ref_conditions p0 rs rl rc rd ra rb rn rf h
set_option maxHeartbeats 4000000 in
set_option maxRecDepth 100000 in
theorem c_Ref_conditions (l : Launch) (D : va_G) (aT bG bS bM : Nat) (dG dS dM : ClassId) (rg : Nat → Int32) (rs : Nat → Int32) (rm : Nat → Int32) (rl : Int32) (rk : Int32) (rr : Int32) (re : Int32) (rc : Int32) (rd : Int32) (ra : Int32) (rb : Int32) (rn : Int32) (rf : Int32) (rw : Int32) (p0 : Int32) (hra : vp_in ra 32) (hrd : vp_in rd 32) (hrb : vp_in rb 32) : kMv l y_Ref_conditions b_Ref_conditions 4 none 3 66 D kCl [(dG, .int), (dS, .int), (dM, .int)] [.ref aT, .int p0] [(aT, .inr (11, [.ref bG, .ref bS, .ref bM, .int rl, .int rk, .int rr, .int re, .int rc, .int rd, .int ra, .int rb, .int rn, .int rf, .int rw])), (bG, .inl (dG, 32, .inl rg)), (bS, .inl (dS, 48, .inl rs)), (bM, .inl (dM, 16384, .inl rm))] [(aT, .inr (11, [.ref bG, .ref bS, .ref bM, .int (f_Ref_conditions p0 rs rl rc rd ra rb rn rf).2.1, .int rk, .int rr, .int re, .int rc, .int rd, .int ra, .int rb, .int (f_Ref_conditions p0 rs rl rc rd ra rb rn rf).2.2.1, .int (f_Ref_conditions p0 rs rl rc rd ra rb rn rf).2.2.2, .int rw])), (bG, .inl (dG, 32, .inl rg)), (bS, .inl (dS, 48, .inl (f_Ref_conditions p0 rs rl rc rd ra rb rn rf).1)), (bM, .inl (dM, 16384, .inl rm))] := by
  refine k_entry (Qc := fun A => kQv D kCl [(dG, .int), (dS, .int), (dM, .int)] [(aT, .inr (11, [.ref bG, .ref bS, .ref bM, .int (f_Ref_conditions p0 rs rl rc rd ra rb rn rf).2.1, .int rk, .int rr, .int re, .int rc, .int rd, .int ra, .int rb, .int (f_Ref_conditions p0 rs rl rc rd ra rb rn rf).2.2.1, .int (f_Ref_conditions p0 rs rl rc rd ra rb rn rf).2.2.2, .int rw])), (bG, .inl (dG, 32, .inl rg)), (bS, .inl (dS, 48, .inl (f_Ref_conditions p0 rs rl rc rd ra rb rn rf).1)), (bM, .inl (dM, 16384, .inl rm))] A) (lv := [(0, .ref aT), (1, .int p0)]) (by decide) (Nat.le_of_ble_eq_true rfl) rfl ?_
  intro p e s m below meth c A ls hx hb hr hml hB hown hlocks hin hA hK hN hP hD hS hl
  have hown : s.vm.findClass "MappedProcessorModel" = some m.cls := hown
  refine lv_aload_n hx hb d_Ref_conditions_0 rfl (lv_at hl 0 rfl) ?_
  refine lv_aload_n hx hb d_Ref_conditions_1 rfl (lv_at hl 0 rfl) ?_
  refine va_get (D := D) (ci := 11) (v := .int ra) (C := "MappedProcessorModel") (T := T_Ref) (N := 14) hx hb hB iw_Ref hown hK hP 0 rfl rfl 9 (by decide) (hB _ mw_652) (fun _ h9 => h9) rfl d_Ref_conditions_2 ?_
  refine k_cVi (As := [.int ra]) (rest := []) (wr := []) (wj := [(aT, .inr (11, [.ref bG, .ref bS, .ref bM, .int rl, .int rk, .int rr, .int re, .int rc, .int rd, .int ra, .int rb, .int rn, .int rf, .int rw])), (bG, .inl (dG, 32, .inl rg)), (bS, .inl (dS, 48, .inl rs)), (bM, .inl (dM, 16384, .inl rm))]) ⟨hx, hb, hml, hown, hB⟩ (c_Ref_crBit l D aT bG bS bM dG dS dM rg rs rm rl rk rr re rc rd ra rb rn rf rw ra) yl_Ref_crBit mw_810 hK hN hP hD hS hA [0, 1, 2] [0, 1, 2, 3] [] [0, 1, 2, 3] rfl rfl rfl rfl (by decide +kernel) 0 rfl rfl rfl rfl hl.1 rfl (Nat.le_of_ble_eq_true rfl) ⟨Nat.le_of_ble_eq_true rfl, Nat.le_of_ble_eq_true rfl⟩ d_Ref_conditions_5 ⟨Nat.le_of_ble_eq_true rfl, Nat.le_of_ble_eq_true rfl⟩ (fun H locs hP hD hS => ?_)
  refine lv_istore_n (lv' := [(2, .int (f_Ref_crBit ra rs)), (0, .ref aT), (1, .int p0)]) hx hb d_Ref_conditions_8 rfl hl (by decide) rfl (fun ls hl => ?_)
  refine lv_aload_n hx hb d_Ref_conditions_9 rfl (lv_at hl 1 rfl) ?_
  refine lv_aload_n hx hb d_Ref_conditions_10 rfl (lv_at hl 1 rfl) ?_
  refine va_get (D := D) (ci := 11) (v := .int rb) (C := "MappedProcessorModel") (T := T_Ref) (N := 14) hx hb hB iw_Ref hown hK hP 0 rfl rfl 10 (by decide) (hB _ mw_653) (fun _ h9 => h9) rfl d_Ref_conditions_11 ?_
  refine k_cVi (As := [.int rb]) (rest := []) (wr := []) (wj := [(aT, .inr (11, [.ref bG, .ref bS, .ref bM, .int rl, .int rk, .int rr, .int re, .int rc, .int rd, .int ra, .int rb, .int rn, .int rf, .int rw])), (bG, .inl (dG, 32, .inl rg)), (bS, .inl (dS, 48, .inl rs)), (bM, .inl (dM, 16384, .inl rm))]) ⟨hx, hb, hml, hown, hB⟩ (c_Ref_crBit l D aT bG bS bM dG dS dM rg rs rm rl rk rr re rc rd ra rb rn rf rw rb) yl_Ref_crBit mw_810 hK hN hP hD hS hA [0, 1, 2] [0, 1, 2, 3] [] [0, 1, 2, 3] rfl rfl rfl rfl (by decide +kernel) 0 rfl rfl rfl rfl hl.1 rfl (Nat.le_of_ble_eq_true rfl) ⟨Nat.le_of_ble_eq_true rfl, Nat.le_of_ble_eq_true rfl⟩ d_Ref_conditions_14 ⟨Nat.le_of_ble_eq_true rfl, Nat.le_of_ble_eq_true rfl⟩ (fun H locs hP hD hS => ?_)
  refine lv_istore_n (lv' := [(3, .int (f_Ref_crBit rb rs)), (2, .int (f_Ref_crBit ra rs)), (0, .ref aT), (1, .int p0)]) hx hb d_Ref_conditions_17 rfl hl (by decide) rfl (fun ls hl => ?_)
  refine lv_iload_n hx hb d_Ref_conditions_18 rfl (lv_at hl 3 rfl) ?_
  refine lv_bipush (v := (16 : Int32)) hx hb d_Ref_conditions_19 (by decide) ?_
  refine lv_icmp_ne (tgt := 45) hx hb d_Ref_conditions_21 (by decide) (fun (h22 : ¬ p0 = (16 : Int32)) => ?_) (fun (h22 : p0 = (16 : Int32)) => ?_)
  · refine lv_iload_n hx hb d_Ref_conditions_45 rfl (lv_at hl 3 rfl) ?_
    refine lv_sipush (v := (528 : Int32)) hx hb d_Ref_conditions_46 (by decide) ?_
    refine lv_icmp_ne (tgt := 75) hx hb d_Ref_conditions_49 (by decide) (fun (h41 : ¬ p0 = (528 : Int32)) => ?_) (fun (h41 : p0 = (528 : Int32)) => ?_)
    · refine lv_iload_n hx hb d_Ref_conditions_75 rfl (lv_at hl 3 rfl) ?_
      refine lv_sipush (v := (257 : Int32)) hx hb d_Ref_conditions_76 (by decide) ?_
      refine lv_icmp_ne (tgt := 106) hx hb d_Ref_conditions_79 (by decide) (fun (h57 : ¬ p0 = (257 : Int32)) => ?_) (fun (h57 : p0 = (257 : Int32)) => ?_)
      · refine lv_iload_n hx hb d_Ref_conditions_106 rfl (lv_at hl 3 rfl) ?_
        refine lv_sipush (v := (449 : Int32)) hx hb d_Ref_conditions_107 (by decide) ?_
        refine lv_icmp_ne (tgt := 137) hx hb d_Ref_conditions_110 (by decide) (fun (h70 : ¬ p0 = (449 : Int32)) => ?_) (fun (h70 : p0 = (449 : Int32)) => ?_)
        · refine lv_iload_n hx hb d_Ref_conditions_137 rfl (lv_at hl 3 rfl) ?_
          refine lv_sipush (v := (193 : Int32)) hx hb d_Ref_conditions_138 (by decide) ?_
          refine lv_icmp_ne (tgt := 165) hx hb d_Ref_conditions_141 (by decide) (fun (h80 : ¬ p0 = (193 : Int32)) => ?_) (fun (h80 : p0 = (193 : Int32)) => ?_)
          · refine lv_iload_n hx hb d_Ref_conditions_165 rfl (lv_at hl 3 rfl) ?_
            refine lv_bipush (v := (50 : Int32)) hx hb d_Ref_conditions_166 (by decide) ?_
            refine lv_icmp_ne (tgt := 211) hx hb d_Ref_conditions_168 (by decide) (fun (h87 : ¬ p0 = (50 : Int32)) => ?_) (fun (h87 : p0 = (50 : Int32)) => ?_)
            · refine lv_iload_n hx hb d_Ref_conditions_211 rfl (lv_at hl 3 rfl) ?_
              refine lv_sipush (v := (150 : Int32)) hx hb d_Ref_conditions_212 (by decide) ?_
              refine lv_icmp_eq (tgt := 222) hx hb d_Ref_conditions_215 (by decide) (fun (h91 : p0 = (150 : Int32)) => ?_) (fun (h91 : ¬ p0 = (150 : Int32)) => ?_)
              · have ef : f_Ref_conditions p0 rs rl rc rd ra rb rn rf = (rs, rl, rn, rf) := by unfold f_Ref_conditions; try dsimp only; rw [if_neg h22, if_neg h41, if_neg h57, if_neg h70, if_neg h80, if_neg h87, if_pos h91]
                exact k_vret hx hb hr hlocks hK hP hD hS [0, 1, 2, 3] rfl (by rw [ef] <;> rfl) d_Ref_conditions_222
              · refine lv_aload_n hx hb d_Ref_conditions_218 rfl (lv_at hl 2 rfl) ?_
                let t92 := (f_Ref_unlisted rs)
                refine k_cVv (As := []) (rest := []) (wr := []) (wj := [(aT, .inr (11, [.ref bG, .ref bS, .ref bM, .int t92.2.1, .int rk, .int rr, .int re, .int rc, .int rd, .int ra, .int rb, .int t92.2.2.1, .int t92.2.2.2, .int rw])), (bG, .inl (dG, 32, .inl rg)), (bS, .inl (dS, 48, .inl t92.1)), (bM, .inl (dM, 16384, .inl rm))]) ⟨hx, hb, hml, hown, hB⟩ (c_Ref_unlisted l D aT bG bS bM dG dS dM rg rs rm rl rk rr re rc rd ra rb rn rf rw) yl_Ref_unlisted mw_827 hK hN hP hD hS hA [0, 1, 2] [0, 1, 2, 3] [] [0, 1, 2, 3] rfl rfl rfl rfl (by decide +kernel) 0 rfl rfl rfl rfl hl.1 rfl (Nat.le_of_ble_eq_true rfl) ⟨Nat.le_of_ble_eq_true rfl, Nat.le_of_ble_eq_true rfl⟩ d_Ref_conditions_219 ⟨Nat.le_of_ble_eq_true rfl, Nat.le_of_ble_eq_true rfl⟩ (fun H locs hP hD hS => ?_)
                have ef : f_Ref_conditions p0 rs rl rc rd ra rb rn rf = (t92.1, t92.2.1, t92.2.2.1, t92.2.2.2) := by unfold f_Ref_conditions; try dsimp only; rw [if_neg h22, if_neg h41, if_neg h57, if_neg h70, if_neg h80, if_neg h87, if_neg h91]
                exact k_vret hx hb hr hlocks hK hP hD hS [0, 1, 2, 3] rfl (by rw [ef] <;> rfl) d_Ref_conditions_222
            · refine lv_aload_n hx hb d_Ref_conditions_171 rfl (lv_at hl 2 rfl) ?_
              let t93 := (f_Ref_barred rs rl rn rf)
              refine k_cVi (As := []) (rest := []) (wr := []) (wj := [(aT, .inr (11, [.ref bG, .ref bS, .ref bM, .int t93.2.2.1, .int rk, .int rr, .int re, .int rc, .int rd, .int ra, .int rb, .int t93.2.2.2.1, .int t93.2.2.2.2, .int rw])), (bG, .inl (dG, 32, .inl rg)), (bS, .inl (dS, 48, .inl t93.2.1)), (bM, .inl (dM, 16384, .inl rm))]) ⟨hx, hb, hml, hown, hB⟩ (c_Ref_barred l D aT bG bS bM dG dS dM rg rs rm rl rk rr re rc rd ra rb rn rf rw) yl_Ref_barred mw_822 hK hN hP hD hS hA [0, 1, 2] [0, 1, 2, 3] [] [0, 1, 2, 3] rfl rfl rfl rfl (by decide +kernel) 0 rfl rfl rfl rfl hl.1 rfl (Nat.le_of_ble_eq_true rfl) ⟨Nat.le_of_ble_eq_true rfl, Nat.le_of_ble_eq_true rfl⟩ d_Ref_conditions_172 ⟨Nat.le_of_ble_eq_true rfl, Nat.le_of_ble_eq_true rfl⟩ (fun H locs hP hD hS => ?_)
              refine lv_if_ne (tgt := 222) hx hb d_Ref_conditions_175 (by decide) (fun (h97 : ¬ t93.1 = (0 : Int32)) => ?_) (fun (h97 : t93.1 = (0 : Int32)) => ?_)
              · have ef : f_Ref_conditions p0 rs rl rc rd ra rb rn rf = (t93.2.1, t93.2.2.1, t93.2.2.2.1, t93.2.2.2.2) := by unfold f_Ref_conditions; try dsimp only; rw [if_neg h22, if_neg h41, if_neg h57, if_neg h70, if_neg h80, if_pos h87, if_neg h97]
                exact k_vret hx hb hr hlocks hK hP hD hS [0, 1, 2, 3] rfl (by rw [ef] <;> rfl) d_Ref_conditions_222
              · refine lv_aload_n hx hb d_Ref_conditions_178 rfl (lv_at hl 2 rfl) ?_
                refine va_get (D := D) (ci := 11) (v := .ref bS) (C := "MappedProcessorModel") (T := T_Ref) (N := 14) hx hb hB iw_Ref hown hK hP 0 rfl rfl 1 (by decide) (hB _ mw_644) (fun _ h9 => h9) rfl d_Ref_conditions_179 ?_
                refine lv_iconst (v := (1 : Int32)) hx hb d_Ref_conditions_182 (by decide) ?_
                refine lv_aload_n hx hb d_Ref_conditions_183 rfl (lv_at hl 2 rfl) ?_
                refine va_get (D := D) (ci := 11) (v := .ref bS) (C := "MappedProcessorModel") (T := T_Ref) (N := 14) hx hb hB iw_Ref hown hK hP 0 rfl rfl 1 (by decide) (hB _ mw_644) (fun _ h9 => h9) rfl d_Ref_conditions_184 ?_
                refine lv_bipush (v := (7 : Int32)) hx hb d_Ref_conditions_187 (by decide) ?_
                refine k_iald (j := 7) hx hb hK hP 2 1 rfl rfl (by decide) (by unfold vp_in; decide) d_Ref_conditions_189 ?_
                refine lv_ldc (v := (65535 : Int32)) hx hb hown (hB _ mw_737) d_Ref_conditions_190 ?_
                refine lv_iand hx hb d_Ref_conditions_192 ?_
                refine k_iast (j := 1) hx hb hK hP hD hS 2 1 rfl rfl (by decide) (by unfold vp_in; decide) d_Ref_conditions_193 (fun H locs hP hD hS => ?_)
                have hP : va_P D kCl [(aT, .inr (11, [.ref bG, .ref bS, .ref bM, .int t93.2.2.1, .int rk, .int rr, .int re, .int rc, .int rd, .int ra, .int rb, .int t93.2.2.2.1, .int t93.2.2.2.2, .int rw])), (bG, .inl (dG, 32, .inl rg)), (bS, .inl (dS, 48, .inl (upd t93.2.1 1 ((t93.2.1 7) &&& (65535 : Int32))))), (bM, .inl (dM, 16384, .inl rm))] H := hP
                have hD : va_D A [(aT, .inr (11, [.ref bG, .ref bS, .ref bM, .int t93.2.2.1, .int rk, .int rr, .int re, .int rc, .int rd, .int ra, .int rb, .int t93.2.2.2.1, .int t93.2.2.2.2, .int rw])), (bG, .inl (dG, 32, .inl rg)), (bS, .inl (dS, 48, .inl (upd t93.2.1 1 ((t93.2.1 7) &&& (65535 : Int32))))), (bM, .inl (dM, 16384, .inl rm))] := hD
                refine lv_aload_n hx hb d_Ref_conditions_194 rfl (lv_at hl 2 rfl) ?_
                refine lv_aload_n hx hb d_Ref_conditions_195 rfl (lv_at hl 2 rfl) ?_
                refine va_get (D := D) (ci := 11) (v := .ref bS) (C := "MappedProcessorModel") (T := T_Ref) (N := 14) hx hb hB iw_Ref hown hK hP 0 rfl rfl 1 (by decide) (hB _ mw_644) (fun _ h9 => h9) rfl d_Ref_conditions_196 ?_
                refine lv_bipush (v := (6 : Int32)) hx hb d_Ref_conditions_199 (by decide) ?_
                refine k_iald (j := 6) hx hb hK hP 2 1 rfl rfl (by decide) (by unfold vp_in; decide) d_Ref_conditions_201 ?_
                refine lv_bipush (v := (-4 : Int32)) hx hb d_Ref_conditions_202 (by decide) ?_
                refine lv_iand hx hb d_Ref_conditions_204 ?_
                refine va_put (D := D) (ci := 11) (v := .int (((upd t93.2.1 1 ((t93.2.1 7) &&& (65535 : Int32))) 6) &&& (-4 : Int32))) (ty := .int) (C := "MappedProcessorModel") (T := T_Ref) (N := 14) hx hb hB iw_Ref ty_Ref ty_Ref_ok nm_Ref hown hK hP hD hS 0 rfl rfl 11 (by decide) (hB _ mw_654) (fun _ h9 => h9) rfl (by decide +kernel) rfl rfl (Nat.le_of_ble_eq_true rfl) d_Ref_conditions_205 (fun H locs hP hD hS => ?_)
                have hP : va_P D kCl [(aT, .inr (11, [.ref bG, .ref bS, .ref bM, .int t93.2.2.1, .int rk, .int rr, .int re, .int rc, .int rd, .int ra, .int rb, .int (((upd t93.2.1 1 ((t93.2.1 7) &&& (65535 : Int32))) 6) &&& (-4 : Int32)), .int t93.2.2.2.2, .int rw])), (bG, .inl (dG, 32, .inl rg)), (bS, .inl (dS, 48, .inl (upd t93.2.1 1 ((t93.2.1 7) &&& (65535 : Int32))))), (bM, .inl (dM, 16384, .inl rm))] H := hP
                have hD : va_D A [(aT, .inr (11, [.ref bG, .ref bS, .ref bM, .int t93.2.2.1, .int rk, .int rr, .int re, .int rc, .int rd, .int ra, .int rb, .int (((upd t93.2.1 1 ((t93.2.1 7) &&& (65535 : Int32))) 6) &&& (-4 : Int32)), .int t93.2.2.2.2, .int rw])), (bG, .inl (dG, 32, .inl rg)), (bS, .inl (dS, 48, .inl (upd t93.2.1 1 ((t93.2.1 7) &&& (65535 : Int32))))), (bM, .inl (dM, 16384, .inl rm))] := hD
                refine lv_goto (tgt := 222) hx hb d_Ref_conditions_208 (by decide) ?_
                have ef : f_Ref_conditions p0 rs rl rc rd ra rb rn rf = ((upd t93.2.1 1 ((t93.2.1 7) &&& (65535 : Int32))), t93.2.2.1, (((upd t93.2.1 1 ((t93.2.1 7) &&& (65535 : Int32))) 6) &&& (-4 : Int32)), t93.2.2.2.2) := by unfold f_Ref_conditions; try dsimp only; rw [if_neg h22, if_neg h41, if_neg h57, if_neg h70, if_neg h80, if_pos h87, if_pos h97]
                exact k_vret hx hb hr hlocks hK hP hD hS [0, 1, 2, 3] rfl (by rw [ef] <;> rfl) d_Ref_conditions_222
          · refine lv_aload_n hx hb d_Ref_conditions_144 rfl (lv_at hl 2 rfl) ?_
            refine lv_aload_n hx hb d_Ref_conditions_145 rfl (lv_at hl 2 rfl) ?_
            refine va_get (D := D) (ci := 11) (v := .int rd) (C := "MappedProcessorModel") (T := T_Ref) (N := 14) hx hb hB iw_Ref hown hK hP 0 rfl rfl 8 (by decide) (hB _ mw_651) (fun _ h9 => h9) rfl d_Ref_conditions_146 ?_
            refine lv_iload_n hx hb d_Ref_conditions_149 rfl (lv_at hl 1 rfl) ?_
            refine lv_iload_n hx hb d_Ref_conditions_150 rfl (lv_at hl 0 rfl) ?_
            refine k_join2 (c0 := (f_Ref_crBit ra rs) = (f_Ref_crBit rb rs)) (x1 := (0 : Int32)) (x2 := (1 : Int32)) (rest := [.int rd, .ref aT]) 159 ?_ (fun k99 k100 => ?_)
            rotate_left
            · refine lv_icmp_eq (tgt := 158) hx hb d_Ref_conditions_151 (by decide) (fun (h98 : (f_Ref_crBit ra rs) = (f_Ref_crBit rb rs)) => ?_) (fun (h98 : ¬ (f_Ref_crBit ra rs) = (f_Ref_crBit rb rs)) => ?_)
              · refine lv_iconst (v := (0 : Int32)) hx hb d_Ref_conditions_158 (by decide) ?_
                exact k99 h98
              · refine lv_iconst (v := (1 : Int32)) hx hb d_Ref_conditions_154 (by decide) ?_
                refine lv_goto (tgt := 159) hx hb d_Ref_conditions_155 (by decide) ?_
                exact k100 h98
            refine k_cVv (As := [.int rd, .int (if (f_Ref_crBit ra rs) = (f_Ref_crBit rb rs) then (0 : Int32) else (1 : Int32))]) (rest := []) (wr := []) (wj := [(aT, .inr (11, [.ref bG, .ref bS, .ref bM, .int rl, .int rk, .int rr, .int re, .int rc, .int rd, .int ra, .int rb, .int rn, .int rf, .int rw])), (bG, .inl (dG, 32, .inl rg)), (bS, .inl (dS, 48, .inl (f_Ref_crSet rd (if (f_Ref_crBit ra rs) = (f_Ref_crBit rb rs) then (0 : Int32) else (1 : Int32)) rs))), (bM, .inl (dM, 16384, .inl rm))]) ⟨hx, hb, hml, hown, hB⟩ (c_Ref_crSet l D aT bG bS bM dG dS dM rg rs rm rl rk rr re rc rd ra rb rn rf rw rd (if (f_Ref_crBit ra rs) = (f_Ref_crBit rb rs) then (0 : Int32) else (1 : Int32))) yl_Ref_crSet mw_818 hK hN hP hD hS hA [0, 1, 2] [0, 1, 2, 3] [] [0, 1, 2, 3] rfl rfl rfl rfl (by decide +kernel) 0 rfl rfl rfl rfl hl.1 rfl (Nat.le_of_ble_eq_true rfl) ⟨Nat.le_of_ble_eq_true rfl, Nat.le_of_ble_eq_true rfl⟩ d_Ref_conditions_159 ⟨Nat.le_of_ble_eq_true rfl, Nat.le_of_ble_eq_true rfl⟩ (fun H locs hP hD hS => ?_)
            refine lv_goto (tgt := 222) hx hb d_Ref_conditions_162 (by decide) ?_
            have ef : f_Ref_conditions p0 rs rl rc rd ra rb rn rf = ((f_Ref_crSet rd (if (f_Ref_crBit ra rs) = (f_Ref_crBit rb rs) then (0 : Int32) else (1 : Int32)) rs), rl, rn, rf) := by unfold f_Ref_conditions; try dsimp only; rw [if_neg h22, if_neg h41, if_neg h57, if_neg h70, if_pos h80]
            exact k_vret hx hb hr hlocks hK hP hD hS [0, 1, 2, 3] rfl (by rw [ef] <;> rfl) d_Ref_conditions_222
        · refine lv_aload_n hx hb d_Ref_conditions_113 rfl (lv_at hl 2 rfl) ?_
          refine lv_aload_n hx hb d_Ref_conditions_114 rfl (lv_at hl 2 rfl) ?_
          refine va_get (D := D) (ci := 11) (v := .int rd) (C := "MappedProcessorModel") (T := T_Ref) (N := 14) hx hb hB iw_Ref hown hK hP 0 rfl rfl 8 (by decide) (hB _ mw_651) (fun _ h9 => h9) rfl d_Ref_conditions_115 ?_
          refine lv_iload_n hx hb d_Ref_conditions_118 rfl (lv_at hl 1 rfl) ?_
          refine k_join2 (c0 := (f_Ref_crBit ra rs) = (0 : Int32)) (x1 := (if (f_Ref_crBit rb rs) = (0 : Int32) then (0 : Int32) else (1 : Int32))) (x2 := (1 : Int32)) (rest := [.int rd, .ref aT]) 131 ?_ (fun k104 k105 => ?_)
          rotate_left
          · refine lv_if_ne (tgt := 126) hx hb d_Ref_conditions_119 (by decide) (fun (h103 : ¬ (f_Ref_crBit ra rs) = (0 : Int32)) => ?_) (fun (h103 : (f_Ref_crBit ra rs) = (0 : Int32)) => ?_)
            · refine lv_iconst (v := (1 : Int32)) hx hb d_Ref_conditions_126 (by decide) ?_
              refine lv_goto (tgt := 131) hx hb d_Ref_conditions_127 (by decide) ?_
              exact k105 h103
            · refine lv_iload_n hx hb d_Ref_conditions_122 rfl (lv_at hl 0 rfl) ?_
              refine k_join2 (c0 := (f_Ref_crBit rb rs) = (0 : Int32)) (x1 := (0 : Int32)) (x2 := (1 : Int32)) (rest := [.int rd, .ref aT]) 131 ?_ (fun k107 k108 => ?_)
              rotate_left
              · refine lv_if_eq (tgt := 130) hx hb d_Ref_conditions_123 (by decide) (fun (h106 : (f_Ref_crBit rb rs) = (0 : Int32)) => ?_) (fun (h106 : ¬ (f_Ref_crBit rb rs) = (0 : Int32)) => ?_)
                · refine lv_iconst (v := (0 : Int32)) hx hb d_Ref_conditions_130 (by decide) ?_
                  exact k107 h106
                · refine lv_iconst (v := (1 : Int32)) hx hb d_Ref_conditions_126 (by decide) ?_
                  refine lv_goto (tgt := 131) hx hb d_Ref_conditions_127 (by decide) ?_
                  exact k108 h106
              exact k104 h103
          refine k_cVv (As := [.int rd, .int (if (f_Ref_crBit ra rs) = (0 : Int32) then (if (f_Ref_crBit rb rs) = (0 : Int32) then (0 : Int32) else (1 : Int32)) else (1 : Int32))]) (rest := []) (wr := []) (wj := [(aT, .inr (11, [.ref bG, .ref bS, .ref bM, .int rl, .int rk, .int rr, .int re, .int rc, .int rd, .int ra, .int rb, .int rn, .int rf, .int rw])), (bG, .inl (dG, 32, .inl rg)), (bS, .inl (dS, 48, .inl (f_Ref_crSet rd (if (f_Ref_crBit ra rs) = (0 : Int32) then (if (f_Ref_crBit rb rs) = (0 : Int32) then (0 : Int32) else (1 : Int32)) else (1 : Int32)) rs))), (bM, .inl (dM, 16384, .inl rm))]) ⟨hx, hb, hml, hown, hB⟩ (c_Ref_crSet l D aT bG bS bM dG dS dM rg rs rm rl rk rr re rc rd ra rb rn rf rw rd (if (f_Ref_crBit ra rs) = (0 : Int32) then (if (f_Ref_crBit rb rs) = (0 : Int32) then (0 : Int32) else (1 : Int32)) else (1 : Int32))) yl_Ref_crSet mw_818 hK hN hP hD hS hA [0, 1, 2] [0, 1, 2, 3] [] [0, 1, 2, 3] rfl rfl rfl rfl (by decide +kernel) 0 rfl rfl rfl rfl hl.1 rfl (Nat.le_of_ble_eq_true rfl) ⟨Nat.le_of_ble_eq_true rfl, Nat.le_of_ble_eq_true rfl⟩ d_Ref_conditions_131 ⟨Nat.le_of_ble_eq_true rfl, Nat.le_of_ble_eq_true rfl⟩ (fun H locs hP hD hS => ?_)
          refine lv_goto (tgt := 222) hx hb d_Ref_conditions_134 (by decide) ?_
          have ef : f_Ref_conditions p0 rs rl rc rd ra rb rn rf = ((f_Ref_crSet rd (if (f_Ref_crBit ra rs) = (0 : Int32) then (if (f_Ref_crBit rb rs) = (0 : Int32) then (0 : Int32) else (1 : Int32)) else (1 : Int32)) rs), rl, rn, rf) := by unfold f_Ref_conditions; try dsimp only; rw [if_neg h22, if_neg h41, if_neg h57, if_pos h70]
          exact k_vret hx hb hr hlocks hK hP hD hS [0, 1, 2, 3] rfl (by rw [ef] <;> rfl) d_Ref_conditions_222
      · refine lv_aload_n hx hb d_Ref_conditions_82 rfl (lv_at hl 2 rfl) ?_
        refine lv_aload_n hx hb d_Ref_conditions_83 rfl (lv_at hl 2 rfl) ?_
        refine va_get (D := D) (ci := 11) (v := .int rd) (C := "MappedProcessorModel") (T := T_Ref) (N := 14) hx hb hB iw_Ref hown hK hP 0 rfl rfl 8 (by decide) (hB _ mw_651) (fun _ h9 => h9) rfl d_Ref_conditions_84 ?_
        refine lv_iload_n hx hb d_Ref_conditions_87 rfl (lv_at hl 1 rfl) ?_
        refine k_join2 (c0 := (f_Ref_crBit ra rs) = (0 : Int32)) (x1 := (0 : Int32)) (x2 := (if (f_Ref_crBit rb rs) = (0 : Int32) then (0 : Int32) else (1 : Int32))) (rest := [.int rd, .ref aT]) 100 ?_ (fun k114 k115 => ?_)
        rotate_left
        · refine lv_if_eq (tgt := 99) hx hb d_Ref_conditions_88 (by decide) (fun (h113 : (f_Ref_crBit ra rs) = (0 : Int32)) => ?_) (fun (h113 : ¬ (f_Ref_crBit ra rs) = (0 : Int32)) => ?_)
          · refine lv_iconst (v := (0 : Int32)) hx hb d_Ref_conditions_99 (by decide) ?_
            exact k114 h113
          · refine lv_iload_n hx hb d_Ref_conditions_91 rfl (lv_at hl 0 rfl) ?_
            refine k_join2 (c0 := (f_Ref_crBit rb rs) = (0 : Int32)) (x1 := (0 : Int32)) (x2 := (1 : Int32)) (rest := [.int rd, .ref aT]) 100 ?_ (fun k117 k118 => ?_)
            rotate_left
            · refine lv_if_eq (tgt := 99) hx hb d_Ref_conditions_92 (by decide) (fun (h116 : (f_Ref_crBit rb rs) = (0 : Int32)) => ?_) (fun (h116 : ¬ (f_Ref_crBit rb rs) = (0 : Int32)) => ?_)
              · refine lv_iconst (v := (0 : Int32)) hx hb d_Ref_conditions_99 (by decide) ?_
                exact k117 h116
              · refine lv_iconst (v := (1 : Int32)) hx hb d_Ref_conditions_95 (by decide) ?_
                refine lv_goto (tgt := 100) hx hb d_Ref_conditions_96 (by decide) ?_
                exact k118 h116
            exact k115 h113
        refine k_cVv (As := [.int rd, .int (if (f_Ref_crBit ra rs) = (0 : Int32) then (0 : Int32) else (if (f_Ref_crBit rb rs) = (0 : Int32) then (0 : Int32) else (1 : Int32)))]) (rest := []) (wr := []) (wj := [(aT, .inr (11, [.ref bG, .ref bS, .ref bM, .int rl, .int rk, .int rr, .int re, .int rc, .int rd, .int ra, .int rb, .int rn, .int rf, .int rw])), (bG, .inl (dG, 32, .inl rg)), (bS, .inl (dS, 48, .inl (f_Ref_crSet rd (if (f_Ref_crBit ra rs) = (0 : Int32) then (0 : Int32) else (if (f_Ref_crBit rb rs) = (0 : Int32) then (0 : Int32) else (1 : Int32))) rs))), (bM, .inl (dM, 16384, .inl rm))]) ⟨hx, hb, hml, hown, hB⟩ (c_Ref_crSet l D aT bG bS bM dG dS dM rg rs rm rl rk rr re rc rd ra rb rn rf rw rd (if (f_Ref_crBit ra rs) = (0 : Int32) then (0 : Int32) else (if (f_Ref_crBit rb rs) = (0 : Int32) then (0 : Int32) else (1 : Int32)))) yl_Ref_crSet mw_818 hK hN hP hD hS hA [0, 1, 2] [0, 1, 2, 3] [] [0, 1, 2, 3] rfl rfl rfl rfl (by decide +kernel) 0 rfl rfl rfl rfl hl.1 rfl (Nat.le_of_ble_eq_true rfl) ⟨Nat.le_of_ble_eq_true rfl, Nat.le_of_ble_eq_true rfl⟩ d_Ref_conditions_100 ⟨Nat.le_of_ble_eq_true rfl, Nat.le_of_ble_eq_true rfl⟩ (fun H locs hP hD hS => ?_)
        refine lv_goto (tgt := 222) hx hb d_Ref_conditions_103 (by decide) ?_
        have ef : f_Ref_conditions p0 rs rl rc rd ra rb rn rf = ((f_Ref_crSet rd (if (f_Ref_crBit ra rs) = (0 : Int32) then (0 : Int32) else (if (f_Ref_crBit rb rs) = (0 : Int32) then (0 : Int32) else (1 : Int32))) rs), rl, rn, rf) := by unfold f_Ref_conditions; try dsimp only; rw [if_neg h22, if_neg h41, if_pos h57]
        exact k_vret hx hb hr hlocks hK hP hD hS [0, 1, 2, 3] rfl (by rw [ef] <;> rfl) d_Ref_conditions_222
    · refine lv_aload_n hx hb d_Ref_conditions_52 rfl (lv_at hl 2 rfl) ?_
      refine lv_aload_n hx hb d_Ref_conditions_53 rfl (lv_at hl 2 rfl) ?_
      refine va_get (D := D) (ci := 11) (v := .int rd) (C := "MappedProcessorModel") (T := T_Ref) (N := 14) hx hb hB iw_Ref hown hK hP 0 rfl rfl 8 (by decide) (hB _ mw_651) (fun _ h9 => h9) rfl d_Ref_conditions_54 ?_
      refine lv_iconst (v := (4 : Int32)) hx hb d_Ref_conditions_57 (by decide) ?_
      refine lv_ior hx hb d_Ref_conditions_58 ?_
      refine lv_aload_n hx hb d_Ref_conditions_59 rfl (lv_at hl 2 rfl) ?_
      refine va_get (D := D) (ci := 11) (v := .ref bS) (C := "MappedProcessorModel") (T := T_Ref) (N := 14) hx hb hB iw_Ref hown hK hP 0 rfl rfl 1 (by decide) (hB _ mw_644) (fun _ h9 => h9) rfl d_Ref_conditions_60 ?_
      refine lv_iconst (v := (5 : Int32)) hx hb d_Ref_conditions_63 (by decide) ?_
      refine k_iald (j := 5) hx hb hK hP 2 1 rfl rfl (by decide) (by unfold vp_in; decide) d_Ref_conditions_64 ?_
      refine lv_bipush (v := (-4 : Int32)) hx hb d_Ref_conditions_65 (by decide) ?_
      refine lv_iand hx hb d_Ref_conditions_67 ?_
      refine lv_iconst (v := (0 : Int32)) hx hb d_Ref_conditions_68 (by decide) ?_
      let t123 := (f_Ref_branch (rd ||| (4 : Int32)) ((rs 5) &&& (-4 : Int32)) (0 : Int32) rs rc ra)
      refine k_cVv (As := [.int (rd ||| (4 : Int32)), .int ((rs 5) &&& (-4 : Int32)), .int (0 : Int32)]) (rest := []) (wr := []) (wj := [(aT, .inr (11, [.ref bG, .ref bS, .ref bM, .int rl, .int rk, .int rr, .int re, .int rc, .int rd, .int ra, .int rb, .int t123.2, .int rf, .int rw])), (bG, .inl (dG, 32, .inl rg)), (bS, .inl (dS, 48, .inl t123.1)), (bM, .inl (dM, 16384, .inl rm))]) ⟨hx, hb, hml, hown, hB⟩ (c_Ref_branch l D aT bG bS bM dG dS dM rg rs rm rl rk rr re rc rd ra rb rn rf rw (rd ||| (4 : Int32)) ((rs 5) &&& (-4 : Int32)) (0 : Int32) hra) yl_Ref_branch mw_806 hK hN hP hD hS hA [0, 1, 2] [0, 1, 2, 3] [] [0, 1, 2, 3] rfl rfl rfl rfl (by decide +kernel) 0 rfl rfl rfl rfl hl.1 rfl (Nat.le_of_ble_eq_true rfl) ⟨Nat.le_of_ble_eq_true rfl, Nat.le_of_ble_eq_true rfl⟩ d_Ref_conditions_69 ⟨Nat.le_of_ble_eq_true rfl, Nat.le_of_ble_eq_true rfl⟩ (fun H locs hP hD hS => ?_)
      refine lv_goto (tgt := 222) hx hb d_Ref_conditions_72 (by decide) ?_
      have ef : f_Ref_conditions p0 rs rl rc rd ra rb rn rf = (t123.1, rl, t123.2, rf) := by unfold f_Ref_conditions; try dsimp only; rw [if_neg h22, if_pos h41]
      exact k_vret hx hb hr hlocks hK hP hD hS [0, 1, 2, 3] rfl (by rw [ef] <;> rfl) d_Ref_conditions_222
  · refine lv_aload_n hx hb d_Ref_conditions_24 rfl (lv_at hl 2 rfl) ?_
    refine lv_aload_n hx hb d_Ref_conditions_25 rfl (lv_at hl 2 rfl) ?_
    refine va_get (D := D) (ci := 11) (v := .int rd) (C := "MappedProcessorModel") (T := T_Ref) (N := 14) hx hb hB iw_Ref hown hK hP 0 rfl rfl 8 (by decide) (hB _ mw_651) (fun _ h9 => h9) rfl d_Ref_conditions_26 ?_
    refine lv_aload_n hx hb d_Ref_conditions_29 rfl (lv_at hl 2 rfl) ?_
    refine va_get (D := D) (ci := 11) (v := .ref bS) (C := "MappedProcessorModel") (T := T_Ref) (N := 14) hx hb hB iw_Ref hown hK hP 0 rfl rfl 1 (by decide) (hB _ mw_644) (fun _ h9 => h9) rfl d_Ref_conditions_30 ?_
    refine lv_iconst (v := (4 : Int32)) hx hb d_Ref_conditions_33 (by decide) ?_
    refine k_iald (j := 4) hx hb hK hP 2 1 rfl rfl (by decide) (by unfold vp_in; decide) d_Ref_conditions_34 ?_
    refine lv_bipush (v := (-4 : Int32)) hx hb d_Ref_conditions_35 (by decide) ?_
    refine lv_iand hx hb d_Ref_conditions_37 ?_
    refine lv_iconst (v := (0 : Int32)) hx hb d_Ref_conditions_38 (by decide) ?_
    let t124 := (f_Ref_branch rd ((rs 4) &&& (-4 : Int32)) (0 : Int32) rs rc ra)
    refine k_cVv (As := [.int rd, .int ((rs 4) &&& (-4 : Int32)), .int (0 : Int32)]) (rest := []) (wr := []) (wj := [(aT, .inr (11, [.ref bG, .ref bS, .ref bM, .int rl, .int rk, .int rr, .int re, .int rc, .int rd, .int ra, .int rb, .int t124.2, .int rf, .int rw])), (bG, .inl (dG, 32, .inl rg)), (bS, .inl (dS, 48, .inl t124.1)), (bM, .inl (dM, 16384, .inl rm))]) ⟨hx, hb, hml, hown, hB⟩ (c_Ref_branch l D aT bG bS bM dG dS dM rg rs rm rl rk rr re rc rd ra rb rn rf rw rd ((rs 4) &&& (-4 : Int32)) (0 : Int32) hra) yl_Ref_branch mw_806 hK hN hP hD hS hA [0, 1, 2] [0, 1, 2, 3] [] [0, 1, 2, 3] rfl rfl rfl rfl (by decide +kernel) 0 rfl rfl rfl rfl hl.1 rfl (Nat.le_of_ble_eq_true rfl) ⟨Nat.le_of_ble_eq_true rfl, Nat.le_of_ble_eq_true rfl⟩ d_Ref_conditions_39 ⟨Nat.le_of_ble_eq_true rfl, Nat.le_of_ble_eq_true rfl⟩ (fun H locs hP hD hS => ?_)
    refine lv_goto (tgt := 222) hx hb d_Ref_conditions_42 (by decide) ?_
    have ef : f_Ref_conditions p0 rs rl rc rd ra rb rn rf = (t124.1, rl, t124.2, rf) := by unfold f_Ref_conditions; try dsimp only; rw [if_pos h22]
    exact k_vret hx hb hr hlocks hK hP hD hS [0, 1, 2, 3] rfl (by rw [ef] <;> rfl) d_Ref_conditions_222
/-! MappedProcessorModel.mask(II)I -/
theorem d_Ref_mask_0 : decode b_Ref_mask 0 = .ok (.iconst 0, 1) := by decide +kernel
theorem d_Ref_mask_1 : decode b_Ref_mask 1 = .ok (.istore_n 2, 1) := by decide +kernel
theorem d_Ref_mask_2 : decode b_Ref_mask 2 = .ok (.iconst 0, 1) := by decide +kernel
theorem d_Ref_mask_3 : decode b_Ref_mask 3 = .ok (.istore_n 3, 1) := by decide +kernel
theorem d_Ref_mask_4 : decode b_Ref_mask 4 = .ok (.iload_n 3, 1) := by decide +kernel
theorem d_Ref_mask_5 : decode b_Ref_mask 5 = .ok (.bipush 32, 2) := by decide +kernel
theorem d_Ref_mask_7 : decode b_Ref_mask 7 = .ok (.if_icmp .ge 67, 3) := by decide +kernel
theorem d_Ref_mask_10 : decode b_Ref_mask 10 = .ok (.iload_n 0, 1) := by decide +kernel
theorem d_Ref_mask_11 : decode b_Ref_mask 11 = .ok (.iload_n 1, 1) := by decide +kernel
theorem d_Ref_mask_12 : decode b_Ref_mask 12 = .ok (.if_icmp .gt 21, 3) := by decide +kernel
theorem d_Ref_mask_15 : decode b_Ref_mask 15 = .ok (.iload_n 3, 1) := by decide +kernel
theorem d_Ref_mask_16 : decode b_Ref_mask 16 = .ok (.iload_n 0, 1) := by decide +kernel
theorem d_Ref_mask_17 : decode b_Ref_mask 17 = .ok (.if_icmp .lt 12, 3) := by decide +kernel
theorem d_Ref_mask_20 : decode b_Ref_mask 20 = .ok (.iload_n 3, 1) := by decide +kernel
theorem d_Ref_mask_21 : decode b_Ref_mask 21 = .ok (.iload_n 1, 1) := by decide +kernel
theorem d_Ref_mask_22 : decode b_Ref_mask 22 = .ok (.if_icmp .gt 7, 3) := by decide +kernel
theorem d_Ref_mask_25 : decode b_Ref_mask 25 = .ok (.iconst 1, 1) := by decide +kernel
theorem d_Ref_mask_26 : decode b_Ref_mask 26 = .ok (.goto 22, 3) := by decide +kernel
theorem d_Ref_mask_29 : decode b_Ref_mask 29 = .ok (.iconst 0, 1) := by decide +kernel
theorem d_Ref_mask_30 : decode b_Ref_mask 30 = .ok (.goto 18, 3) := by decide +kernel
theorem d_Ref_mask_33 : decode b_Ref_mask 33 = .ok (.iload_n 3, 1) := by decide +kernel
theorem d_Ref_mask_34 : decode b_Ref_mask 34 = .ok (.iload_n 0, 1) := by decide +kernel
theorem d_Ref_mask_35 : decode b_Ref_mask 35 = .ok (.if_icmp .ge 8, 3) := by decide +kernel
theorem d_Ref_mask_38 : decode b_Ref_mask 38 = .ok (.iload_n 3, 1) := by decide +kernel
theorem d_Ref_mask_39 : decode b_Ref_mask 39 = .ok (.iload_n 1, 1) := by decide +kernel
theorem d_Ref_mask_40 : decode b_Ref_mask 40 = .ok (.if_icmp .gt 7, 3) := by decide +kernel
theorem d_Ref_mask_43 : decode b_Ref_mask 43 = .ok (.iconst 1, 1) := by decide +kernel
theorem d_Ref_mask_44 : decode b_Ref_mask 44 = .ok (.goto 4, 3) := by decide +kernel
theorem d_Ref_mask_47 : decode b_Ref_mask 47 = .ok (.iconst 0, 1) := by decide +kernel
theorem d_Ref_mask_48 : decode b_Ref_mask 48 = .ok (.istore 4, 2) := by decide +kernel
theorem d_Ref_mask_50 : decode b_Ref_mask 50 = .ok (.iload 4, 2) := by decide +kernel
theorem d_Ref_mask_52 : decode b_Ref_mask 52 = .ok (.ifCond .eq 14, 3) := by decide +kernel
theorem d_Ref_mask_55 : decode b_Ref_mask 55 = .ok (.iload_n 2, 1) := by decide +kernel
theorem d_Ref_mask_56 : decode b_Ref_mask 56 = .ok (.iconst 1, 1) := by decide +kernel
theorem d_Ref_mask_57 : decode b_Ref_mask 57 = .ok (.bipush 31, 2) := by decide +kernel
theorem d_Ref_mask_59 : decode b_Ref_mask 59 = .ok (.iload_n 3, 1) := by decide +kernel
theorem d_Ref_mask_60 : decode b_Ref_mask 60 = .ok (.isub, 1) := by decide +kernel
theorem d_Ref_mask_61 : decode b_Ref_mask 61 = .ok (.ishl, 1) := by decide +kernel
theorem d_Ref_mask_62 : decode b_Ref_mask 62 = .ok (.ior, 1) := by decide +kernel
theorem d_Ref_mask_63 : decode b_Ref_mask 63 = .ok (.goto 4, 3) := by decide +kernel
theorem d_Ref_mask_66 : decode b_Ref_mask 66 = .ok (.iload_n 2, 1) := by decide +kernel
theorem d_Ref_mask_67 : decode b_Ref_mask 67 = .ok (.istore_n 2, 1) := by decide +kernel
theorem d_Ref_mask_68 : decode b_Ref_mask 68 = .ok (.iinc 3 1, 3) := by decide +kernel
theorem d_Ref_mask_71 : decode b_Ref_mask 71 = .ok (.goto (-67), 3) := by decide +kernel
theorem d_Ref_mask_74 : decode b_Ref_mask 74 = .ok (.iload_n 2, 1) := by decide +kernel
theorem d_Ref_mask_75 : decode b_Ref_mask 75 = .ok (.ireturn, 1) := by decide +kernel
def f_Ref_mask_lp (p0 : Int32) (p1 : Int32) : Nat → Nat → Int32 → Int32
  | 0, j, x2 => x2
  | n + 1, j, x2 => f_Ref_mask_lp p0 p1 n (j + 1) (if (if p1 < p0 then (if p0 ≤ (nI j) then (1 : Int32) else (if p1 < (nI j) then (0 : Int32) else (1 : Int32))) else (if (nI j) < p0 then (0 : Int32) else (if p1 < (nI j) then (0 : Int32) else (1 : Int32)))) = (0 : Int32) then x2 else (x2 ||| (shl (1 : Int32) ((31 : Int32) - (nI j)))))
def f_Ref_mask (p0 : Int32) (p1 : Int32) : Int32 :=
  f_Ref_mask_lp p0 p1 32 0 (0 : Int32)
set_option maxHeartbeats 4000000 in
set_option maxRecDepth 100000 in
theorem c_Ref_mask (l : Launch) (D : va_G) (p0 : Int32) (p1 : Int32) : kMi l y_Ref_mask b_Ref_mask 5 (some .int) 0 0 D kCl [] [.int p0, .int p1] [] (f_Ref_mask p0 p1) [] := by
  refine k_entry (Qc := fun A => kQi D kCl [] (f_Ref_mask p0 p1) [] A) (lv := [(0, .int p0), (1, .int p1)]) (by decide) (Nat.le_of_ble_eq_true rfl) rfl ?_
  intro p e s m below meth c A ls hx hb hr hml hB hown hlocks hin hA hK hN hP hD hS hl
  have hown : s.vm.findClass "MappedProcessorModel" = some m.cls := hown
  refine lv_iconst (v := (0 : Int32)) hx hb d_Ref_mask_0 (by decide) ?_
  refine lv_istore_n (lv' := [(2, .int (0 : Int32)), (0, .int p0), (1, .int p1)]) hx hb d_Ref_mask_1 rfl hl (by decide) rfl (fun ls hl => ?_)
  refine lv_iconst (v := (0 : Int32)) hx hb d_Ref_mask_2 (by decide) ?_
  refine lv_istore_n (lv' := [(3, .int (0 : Int32)), (2, .int (0 : Int32)), (0, .int p0), (1, .int p1)]) hx hb d_Ref_mask_3 rfl hl (by decide) rfl (fun ls hl => ?_)
  have ef : f_Ref_mask p0 p1 = f_Ref_mask_lp p0 p1 32 0 (0 : Int32) := rfl
  have lp : ∀ (n j : Nat) (x2 : Int32) (H : Heap) (locs : List Loc) (ls : Array Slot), j + n = 32 → f_Ref_mask p0 p1 = f_Ref_mask_lp p0 p1 n j x2 → va_P D kCl [] H → va_D A [] → va_S A s.heap H locs → lv_has ls 5 [(3, .int (nI j)), (2, .int x2), (0, .int p0), (1, .int p1)] → W p l e { frames := 0, cells := 0, slots := 0, locals := 0 } s m (([.int p0, .int p1] : List Value).toArray) below meth c H locs 0 0 (MQ below (kQi D kCl [] (f_Ref_mask p0 p1) [] A) (([.int p0, .int p1] : List Value).toArray) s 0 0 A) (F0 m 4 ls []) := by
    intro n
    induction n with
    | zero =>
      intro j x2 H locs ls hj ef0 hP hD hS hl
      refine lv_iload_n hx hb d_Ref_mask_4 rfl (lv_at hl 0 rfl) ?_
      refine lv_bipush (v := (32 : Int32)) hx hb d_Ref_mask_5 (by decide) ?_
      refine lv_icmp_ge (tgt := 74) hx hb d_Ref_mask_7 (by decide) (fun (h1 : (32 : Int32) ≤ (nI j)) => ?_) (fun (h1 : ¬ (32 : Int32) ≤ (nI j)) => ?_)
      rotate_left
      · exact absurd (lp_z (B := 32) (by decide) hj) h1
      refine lv_iload_n hx hb d_Ref_mask_74 rfl (lv_at hl 1 rfl) ?_
      have ef : f_Ref_mask p0 p1 = x2 := ef0.trans (by rw [f_Ref_mask_lp]; try dsimp only)
      exact k_iret hx hb hr hlocks hK hP hD hS [] rfl rfl (by rw [ef] <;> rfl) d_Ref_mask_75
    | succ n ih =>
      intro j x2 H locs ls hj ef0 hP hD hS hl
      refine lv_iload_n hx hb d_Ref_mask_4 rfl (lv_at hl 0 rfl) ?_
      refine lv_bipush (v := (32 : Int32)) hx hb d_Ref_mask_5 (by decide) ?_
      refine lv_icmp_ge (tgt := 74) hx hb d_Ref_mask_7 (by decide) (fun (h2 : (32 : Int32) ≤ (nI j)) => ?_) (fun (h2 : ¬ (32 : Int32) ≤ (nI j)) => ?_)
      · exact absurd h2 (lp_s (B := 32) (by decide) hj)
      refine lv_iload_n hx hb d_Ref_mask_10 rfl (lv_at hl 2 rfl) ?_
      refine lv_iload_n hx hb d_Ref_mask_11 rfl (lv_at hl 3 rfl) ?_
      refine k_join2 (c0 := p1 < p0) (x1 := (if p0 ≤ (nI j) then (1 : Int32) else (if p1 < (nI j) then (0 : Int32) else (1 : Int32)))) (x2 := (if (nI j) < p0 then (0 : Int32) else (if p1 < (nI j) then (0 : Int32) else (1 : Int32)))) (rest := []) 48 ?_ (fun k4 k5 => ?_)
      rotate_left
      · refine lv_icmp_gt (tgt := 33) hx hb d_Ref_mask_12 (by decide) (fun (h3 : p1 < p0) => ?_) (fun (h3 : ¬ p1 < p0) => ?_)
        · refine lv_iload_n hx hb d_Ref_mask_33 rfl (lv_at hl 0 rfl) ?_
          refine lv_iload_n hx hb d_Ref_mask_34 rfl (lv_at hl 2 rfl) ?_
          refine k_join2 (c0 := p0 ≤ (nI j)) (x1 := (1 : Int32)) (x2 := (if p1 < (nI j) then (0 : Int32) else (1 : Int32))) (rest := []) 48 ?_ (fun k7 k8 => ?_)
          rotate_left
          · refine lv_icmp_ge (tgt := 43) hx hb d_Ref_mask_35 (by decide) (fun (h6 : p0 ≤ (nI j)) => ?_) (fun (h6 : ¬ p0 ≤ (nI j)) => ?_)
            · refine lv_iconst (v := (1 : Int32)) hx hb d_Ref_mask_43 (by decide) ?_
              refine lv_goto (tgt := 48) hx hb d_Ref_mask_44 (by decide) ?_
              exact k7 h6
            · refine lv_iload_n hx hb d_Ref_mask_38 rfl (lv_at hl 0 rfl) ?_
              refine lv_iload_n hx hb d_Ref_mask_39 rfl (lv_at hl 3 rfl) ?_
              refine k_join2 (c0 := p1 < (nI j)) (x1 := (0 : Int32)) (x2 := (1 : Int32)) (rest := []) 48 ?_ (fun k10 k11 => ?_)
              rotate_left
              · refine lv_icmp_gt (tgt := 47) hx hb d_Ref_mask_40 (by decide) (fun (h9 : p1 < (nI j)) => ?_) (fun (h9 : ¬ p1 < (nI j)) => ?_)
                · refine lv_iconst (v := (0 : Int32)) hx hb d_Ref_mask_47 (by decide) ?_
                  exact k10 h9
                · refine lv_iconst (v := (1 : Int32)) hx hb d_Ref_mask_43 (by decide) ?_
                  refine lv_goto (tgt := 48) hx hb d_Ref_mask_44 (by decide) ?_
                  exact k11 h9
              exact k8 h6
          exact k4 h3
        · refine lv_iload_n hx hb d_Ref_mask_15 rfl (lv_at hl 0 rfl) ?_
          refine lv_iload_n hx hb d_Ref_mask_16 rfl (lv_at hl 2 rfl) ?_
          refine k_join2 (c0 := (nI j) < p0) (x1 := (0 : Int32)) (x2 := (if p1 < (nI j) then (0 : Int32) else (1 : Int32))) (rest := []) 48 ?_ (fun k17 k18 => ?_)
          rotate_left
          · refine lv_icmp_lt (tgt := 29) hx hb d_Ref_mask_17 (by decide) (fun (h16 : (nI j) < p0) => ?_) (fun (h16 : ¬ (nI j) < p0) => ?_)
            · refine lv_iconst (v := (0 : Int32)) hx hb d_Ref_mask_29 (by decide) ?_
              refine lv_goto (tgt := 48) hx hb d_Ref_mask_30 (by decide) ?_
              exact k17 h16
            · refine lv_iload_n hx hb d_Ref_mask_20 rfl (lv_at hl 0 rfl) ?_
              refine lv_iload_n hx hb d_Ref_mask_21 rfl (lv_at hl 3 rfl) ?_
              refine k_join2 (c0 := p1 < (nI j)) (x1 := (0 : Int32)) (x2 := (1 : Int32)) (rest := []) 48 ?_ (fun k20 k21 => ?_)
              rotate_left
              · refine lv_icmp_gt (tgt := 29) hx hb d_Ref_mask_22 (by decide) (fun (h19 : p1 < (nI j)) => ?_) (fun (h19 : ¬ p1 < (nI j)) => ?_)
                · refine lv_iconst (v := (0 : Int32)) hx hb d_Ref_mask_29 (by decide) ?_
                  refine lv_goto (tgt := 48) hx hb d_Ref_mask_30 (by decide) ?_
                  exact k20 h19
                · refine lv_iconst (v := (1 : Int32)) hx hb d_Ref_mask_25 (by decide) ?_
                  refine lv_goto (tgt := 48) hx hb d_Ref_mask_26 (by decide) ?_
                  exact k21 h19
              exact k18 h16
          exact k5 h3
      refine lv_istore (lv' := [(4, .int (if p1 < p0 then (if p0 ≤ (nI j) then (1 : Int32) else (if p1 < (nI j) then (0 : Int32) else (1 : Int32))) else (if (nI j) < p0 then (0 : Int32) else (if p1 < (nI j) then (0 : Int32) else (1 : Int32))))), (3, .int (nI j)), (2, .int x2), (0, .int p0), (1, .int p1)]) hx hb d_Ref_mask_48 hl (by decide) rfl (fun ls hl => ?_)
      refine lv_iload hx hb d_Ref_mask_50 (lv_at hl 0 rfl) ?_
      refine k_join2 (c0 := (if p1 < p0 then (if p0 ≤ (nI j) then (1 : Int32) else (if p1 < (nI j) then (0 : Int32) else (1 : Int32))) else (if (nI j) < p0 then (0 : Int32) else (if p1 < (nI j) then (0 : Int32) else (1 : Int32)))) = (0 : Int32)) (x1 := x2) (x2 := (x2 ||| (shl (1 : Int32) ((31 : Int32) - (nI j))))) (rest := []) 67 ?_ (fun k29 k30 => ?_)
      rotate_left
      · refine lv_if_eq (tgt := 66) hx hb d_Ref_mask_52 (by decide) (fun (h28 : (if p1 < p0 then (if p0 ≤ (nI j) then (1 : Int32) else (if p1 < (nI j) then (0 : Int32) else (1 : Int32))) else (if (nI j) < p0 then (0 : Int32) else (if p1 < (nI j) then (0 : Int32) else (1 : Int32)))) = (0 : Int32)) => ?_) (fun (h28 : ¬ (if p1 < p0 then (if p0 ≤ (nI j) then (1 : Int32) else (if p1 < (nI j) then (0 : Int32) else (1 : Int32))) else (if (nI j) < p0 then (0 : Int32) else (if p1 < (nI j) then (0 : Int32) else (1 : Int32)))) = (0 : Int32)) => ?_)
        · refine lv_iload_n hx hb d_Ref_mask_66 rfl (lv_at hl 2 rfl) ?_
          exact k29 h28
        · refine lv_iload_n hx hb d_Ref_mask_55 rfl (lv_at hl 2 rfl) ?_
          refine lv_iconst (v := (1 : Int32)) hx hb d_Ref_mask_56 (by decide) ?_
          refine lv_bipush (v := (31 : Int32)) hx hb d_Ref_mask_57 (by decide) ?_
          refine lv_iload_n hx hb d_Ref_mask_59 rfl (lv_at hl 1 rfl) ?_
          refine lv_isub hx hb d_Ref_mask_60 ?_
          refine lv_ishl hx hb d_Ref_mask_61 ?_
          refine lv_ior hx hb d_Ref_mask_62 ?_
          refine lv_goto (tgt := 67) hx hb d_Ref_mask_63 (by decide) ?_
          exact k30 h28
      refine lv_istore_n (lv' := [(2, .int (if (if p1 < p0 then (if p0 ≤ (nI j) then (1 : Int32) else (if p1 < (nI j) then (0 : Int32) else (1 : Int32))) else (if (nI j) < p0 then (0 : Int32) else (if p1 < (nI j) then (0 : Int32) else (1 : Int32)))) = (0 : Int32) then x2 else (x2 ||| (shl (1 : Int32) ((31 : Int32) - (nI j)))))), (4, .int (if p1 < p0 then (if p0 ≤ (nI j) then (1 : Int32) else (if p1 < (nI j) then (0 : Int32) else (1 : Int32))) else (if (nI j) < p0 then (0 : Int32) else (if p1 < (nI j) then (0 : Int32) else (1 : Int32))))), (3, .int (nI j)), (0, .int p0), (1, .int p1)]) hx hb d_Ref_mask_67 rfl hl (by decide) rfl (fun ls hl => ?_)
      refine lv_iinc (v := (nI (j + 1))) (lv' := [(3, .int (nI (j + 1))), (2, .int (if (if p1 < p0 then (if p0 ≤ (nI j) then (1 : Int32) else (if p1 < (nI j) then (0 : Int32) else (1 : Int32))) else (if (nI j) < p0 then (0 : Int32) else (if p1 < (nI j) then (0 : Int32) else (1 : Int32)))) = (0 : Int32) then x2 else (x2 ||| (shl (1 : Int32) ((31 : Int32) - (nI j)))))), (4, .int (if p1 < p0 then (if p0 ≤ (nI j) then (1 : Int32) else (if p1 < (nI j) then (0 : Int32) else (1 : Int32))) else (if (nI j) < p0 then (0 : Int32) else (if p1 < (nI j) then (0 : Int32) else (1 : Int32))))), (0, .int p0), (1, .int p1)]) hx hb d_Ref_mask_68 hl (k := 2) rfl (nI_1 j) (by decide) rfl (fun ls hl => ?_)
      refine lv_goto (tgt := 4) hx hb d_Ref_mask_71 (by decide) ?_
      have ef : f_Ref_mask p0 p1 = f_Ref_mask_lp p0 p1 n (j + 1) (if (if p1 < p0 then (if p0 ≤ (nI j) then (1 : Int32) else (if p1 < (nI j) then (0 : Int32) else (1 : Int32))) else (if (nI j) < p0 then (0 : Int32) else (if p1 < (nI j) then (0 : Int32) else (1 : Int32)))) = (0 : Int32) then x2 else (x2 ||| (shl (1 : Int32) ((31 : Int32) - (nI j))))) := ef0.trans (by rw [f_Ref_mask_lp]; try dsimp only)
      exact ih (j + 1) (if (if p1 < p0 then (if p0 ≤ (nI j) then (1 : Int32) else (if p1 < (nI j) then (0 : Int32) else (1 : Int32))) else (if (nI j) < p0 then (0 : Int32) else (if p1 < (nI j) then (0 : Int32) else (1 : Int32)))) = (0 : Int32) then x2 else (x2 ||| (shl (1 : Int32) ((31 : Int32) - (nI j))))) _ _ ls (by omega) ef hP hD hS (lv_sub hl [0, 1, 3, 4] rfl)
  exact lp 32 0 (0 : Int32) _ _ ls (by omega) ef hP hD hS (lv_sub hl [0, 1, 2, 3] rfl)
/-! MappedProcessorModel.turned(II)I -/
theorem d_Ref_turned_0 : decode b_Ref_turned 0 = .ok (.iload_n 0, 1) := by decide +kernel
theorem d_Ref_turned_1 : decode b_Ref_turned 1 = .ok (.istore_n 2, 1) := by decide +kernel
theorem d_Ref_turned_2 : decode b_Ref_turned 2 = .ok (.iconst 0, 1) := by decide +kernel
theorem d_Ref_turned_3 : decode b_Ref_turned 3 = .ok (.istore_n 3, 1) := by decide +kernel
theorem d_Ref_turned_4 : decode b_Ref_turned 4 = .ok (.iload_n 3, 1) := by decide +kernel
theorem d_Ref_turned_5 : decode b_Ref_turned 5 = .ok (.iload_n 1, 1) := by decide +kernel
theorem d_Ref_turned_6 : decode b_Ref_turned 6 = .ok (.if_icmp .ge 18, 3) := by decide +kernel
theorem d_Ref_turned_9 : decode b_Ref_turned 9 = .ok (.iload_n 2, 1) := by decide +kernel
theorem d_Ref_turned_10 : decode b_Ref_turned 10 = .ok (.iconst 1, 1) := by decide +kernel
theorem d_Ref_turned_11 : decode b_Ref_turned 11 = .ok (.ishl, 1) := by decide +kernel
theorem d_Ref_turned_12 : decode b_Ref_turned 12 = .ok (.iload_n 2, 1) := by decide +kernel
theorem d_Ref_turned_13 : decode b_Ref_turned 13 = .ok (.bipush 31, 2) := by decide +kernel
theorem d_Ref_turned_15 : decode b_Ref_turned 15 = .ok (.iushr, 1) := by decide +kernel
theorem d_Ref_turned_16 : decode b_Ref_turned 16 = .ok (.ior, 1) := by decide +kernel
theorem d_Ref_turned_17 : decode b_Ref_turned 17 = .ok (.istore_n 2, 1) := by decide +kernel
theorem d_Ref_turned_18 : decode b_Ref_turned 18 = .ok (.iinc 3 1, 3) := by decide +kernel
theorem d_Ref_turned_21 : decode b_Ref_turned 21 = .ok (.goto (-17), 3) := by decide +kernel
theorem d_Ref_turned_24 : decode b_Ref_turned 24 = .ok (.iload_n 2, 1) := by decide +kernel
theorem d_Ref_turned_25 : decode b_Ref_turned 25 = .ok (.ireturn, 1) := by decide +kernel
def f_Ref_turned_lp  : Nat → Nat → Int32 → Int32
  | 0, j, x2 => x2
  | n + 1, j, x2 => f_Ref_turned_lp  n (j + 1) ((shl x2 (1 : Int32)) ||| (ush x2 (31 : Int32)))
def f_Ref_turned (p0 : Int32) (p1 : Int32) : Int32 :=
  f_Ref_turned_lp  (ix p1) 0 p0
set_option maxHeartbeats 4000000 in
set_option maxRecDepth 100000 in
theorem c_Ref_turned (l : Launch) (D : va_G) (p0 : Int32) (p1 : Int32) (hby : vp_in p1 32) : kMi l y_Ref_turned b_Ref_turned 4 (some .int) 0 0 D kCl [] [.int p0, .int p1] [] (f_Ref_turned p0 p1) [] := by
  refine k_entry (Qc := fun A => kQi D kCl [] (f_Ref_turned p0 p1) [] A) (lv := [(0, .int p0), (1, .int p1)]) (by decide) (Nat.le_of_ble_eq_true rfl) rfl ?_
  intro p e s m below meth c A ls hx hb hr hml hB hown hlocks hin hA hK hN hP hD hS hl
  have hown : s.vm.findClass "MappedProcessorModel" = some m.cls := hown
  refine lv_iload_n hx hb d_Ref_turned_0 rfl (lv_at hl 0 rfl) ?_
  refine lv_istore_n (lv' := [(2, .int p0), (0, .int p0), (1, .int p1)]) hx hb d_Ref_turned_1 rfl hl (by decide) rfl (fun ls hl => ?_)
  refine lv_iconst (v := (0 : Int32)) hx hb d_Ref_turned_2 (by decide) ?_
  refine lv_istore_n (lv' := [(3, .int (0 : Int32)), (2, .int p0), (0, .int p0), (1, .int p1)]) hx hb d_Ref_turned_3 rfl hl (by decide) rfl (fun ls hl => ?_)
  have ef : f_Ref_turned p0 p1 = f_Ref_turned_lp  (ix p1) 0 p0 := rfl
  have lp : ∀ (n j : Nat) (x2 : Int32) (H : Heap) (locs : List Loc) (ls : Array Slot), j + n = (ix p1) → f_Ref_turned p0 p1 = f_Ref_turned_lp  n j x2 → va_P D kCl [] H → va_D A [] → va_S A s.heap H locs → lv_has ls 4 [(3, .int (nI j)), (2, .int x2), (0, .int p0), (1, .int p1)] → W p l e { frames := 0, cells := 0, slots := 0, locals := 0 } s m (([.int p0, .int p1] : List Value).toArray) below meth c H locs 0 0 (MQ below (kQi D kCl [] (f_Ref_turned p0 p1) [] A) (([.int p0, .int p1] : List Value).toArray) s 0 0 A) (F0 m 4 ls []) := by
    intro n
    induction n with
    | zero =>
      intro j x2 H locs ls hj ef0 hP hD hS hl
      refine lv_iload_n hx hb d_Ref_turned_4 rfl (lv_at hl 0 rfl) ?_
      refine lv_iload_n hx hb d_Ref_turned_5 rfl (lv_at hl 3 rfl) ?_
      refine lv_icmp_ge (tgt := 24) hx hb d_Ref_turned_6 (by decide) (fun (h1 : p1 ≤ (nI j)) => ?_) (fun (h1 : ¬ p1 ≤ (nI j)) => ?_)
      rotate_left
      · exact absurd (lpv_z (fun q => hby (Or.inl q)) hj) h1
      refine lv_iload_n hx hb d_Ref_turned_24 rfl (lv_at hl 1 rfl) ?_
      have ef : f_Ref_turned p0 p1 = x2 := ef0.trans (by rw [f_Ref_turned_lp]; try dsimp only)
      exact k_iret hx hb hr hlocks hK hP hD hS [] rfl rfl (by rw [ef] <;> rfl) d_Ref_turned_25
    | succ n ih =>
      intro j x2 H locs ls hj ef0 hP hD hS hl
      refine lv_iload_n hx hb d_Ref_turned_4 rfl (lv_at hl 0 rfl) ?_
      refine lv_iload_n hx hb d_Ref_turned_5 rfl (lv_at hl 3 rfl) ?_
      refine lv_icmp_ge (tgt := 24) hx hb d_Ref_turned_6 (by decide) (fun (h2 : p1 ≤ (nI j)) => ?_) (fun (h2 : ¬ p1 ≤ (nI j)) => ?_)
      · exact absurd h2 (lpv_s (fun q => hby (Or.inl q)) hj)
      refine lv_iload_n hx hb d_Ref_turned_9 rfl (lv_at hl 1 rfl) ?_
      refine lv_iconst (v := (1 : Int32)) hx hb d_Ref_turned_10 (by decide) ?_
      refine lv_ishl hx hb d_Ref_turned_11 ?_
      refine lv_iload_n hx hb d_Ref_turned_12 rfl (lv_at hl 1 rfl) ?_
      refine lv_bipush (v := (31 : Int32)) hx hb d_Ref_turned_13 (by decide) ?_
      refine lv_iushr (v := (ush x2 (31 : Int32))) hx hb d_Ref_turned_15 rfl ?_
      refine lv_ior hx hb d_Ref_turned_16 ?_
      refine lv_istore_n (lv' := [(2, .int ((shl x2 (1 : Int32)) ||| (ush x2 (31 : Int32)))), (3, .int (nI j)), (0, .int p0), (1, .int p1)]) hx hb d_Ref_turned_17 rfl hl (by decide) rfl (fun ls hl => ?_)
      refine lv_iinc (v := (nI (j + 1))) (lv' := [(3, .int (nI (j + 1))), (2, .int ((shl x2 (1 : Int32)) ||| (ush x2 (31 : Int32)))), (0, .int p0), (1, .int p1)]) hx hb d_Ref_turned_18 hl (k := 1) rfl (nI_1 j) (by decide) rfl (fun ls hl => ?_)
      refine lv_goto (tgt := 4) hx hb d_Ref_turned_21 (by decide) ?_
      have ef : f_Ref_turned p0 p1 = f_Ref_turned_lp  n (j + 1) ((shl x2 (1 : Int32)) ||| (ush x2 (31 : Int32))) := ef0.trans (by rw [f_Ref_turned_lp]; try dsimp only)
      exact ih (j + 1) ((shl x2 (1 : Int32)) ||| (ush x2 (31 : Int32))) _ _ ls (by omega) ef hP hD hS (lv_sub hl [0, 1, 2, 3] rfl)
  exact lp (ix p1) 0 p0 _ _ ls (by omega) ef hP hD hS (lv_sub hl [0, 1, 2, 3] rfl)
/-! MappedProcessorModel.result(II)V -/
theorem d_Ref_result_0 : decode b_Ref_result 0 = .ok (.aload_n 0, 1) := by decide +kernel
theorem d_Ref_result_1 : decode b_Ref_result 1 = .ok (.getfield 7, 3) := by decide +kernel
theorem d_Ref_result_4 : decode b_Ref_result 4 = .ok (.iload_n 1, 1) := by decide +kernel
theorem d_Ref_result_5 : decode b_Ref_result 5 = .ok (.iload_n 2, 1) := by decide +kernel
theorem d_Ref_result_6 : decode b_Ref_result 6 = .ok (.iastore, 1) := by decide +kernel
theorem d_Ref_result_7 : decode b_Ref_result 7 = .ok (.aload_n 0, 1) := by decide +kernel
theorem d_Ref_result_8 : decode b_Ref_result 8 = .ok (.getfield 79, 3) := by decide +kernel
theorem d_Ref_result_11 : decode b_Ref_result 11 = .ok (.iconst 1, 1) := by decide +kernel
theorem d_Ref_result_12 : decode b_Ref_result 12 = .ok (.iand, 1) := by decide +kernel
theorem d_Ref_result_13 : decode b_Ref_result 13 = .ok (.iconst 1, 1) := by decide +kernel
theorem d_Ref_result_14 : decode b_Ref_result 14 = .ok (.if_icmp .ne 8, 3) := by decide +kernel
theorem d_Ref_result_17 : decode b_Ref_result 17 = .ok (.aload_n 0, 1) := by decide +kernel
theorem d_Ref_result_18 : decode b_Ref_result 18 = .ok (.iload_n 2, 1) := by decide +kernel
theorem d_Ref_result_19 : decode b_Ref_result 19 = .ok (.invokevirtual 113, 3) := by decide +kernel
theorem d_Ref_result_22 : decode b_Ref_result 22 = .ok (.return_, 1) := by decide +kernel
def f_Ref_result (p0 : Int32) (p1 : Int32) (rg : Nat → Int32) (rs : Nat → Int32) (rc : Int32) : (Nat → Int32) × (Nat → Int32) :=
  if (rc &&& (1 : Int32)) = (1 : Int32) then
    ((upd rg (ix p0) p1), (f_Ref_noteResult p1 rs))
  else
    ((upd rg (ix p0) p1), rs)
set_option maxHeartbeats 4000000 in
set_option maxRecDepth 100000 in
theorem c_Ref_result (l : Launch) (D : va_G) (aT bG bS bM : Nat) (dG dS dM : ClassId) (rg : Nat → Int32) (rs : Nat → Int32) (rm : Nat → Int32) (rl : Int32) (rk : Int32) (rr : Int32) (re : Int32) (rc : Int32) (rd : Int32) (ra : Int32) (rb : Int32) (rn : Int32) (rf : Int32) (rw : Int32) (p0 : Int32) (p1 : Int32) (hp0 : vp_in p0 32) : kMv l y_Ref_result b_Ref_result 3 none 3 70 D kCl [(dG, .int), (dS, .int), (dM, .int)] [.ref aT, .int p0, .int p1] [(aT, .inr (11, [.ref bG, .ref bS, .ref bM, .int rl, .int rk, .int rr, .int re, .int rc, .int rd, .int ra, .int rb, .int rn, .int rf, .int rw])), (bG, .inl (dG, 32, .inl rg)), (bS, .inl (dS, 48, .inl rs)), (bM, .inl (dM, 16384, .inl rm))] [(aT, .inr (11, [.ref bG, .ref bS, .ref bM, .int rl, .int rk, .int rr, .int re, .int rc, .int rd, .int ra, .int rb, .int rn, .int rf, .int rw])), (bG, .inl (dG, 32, .inl (f_Ref_result p0 p1 rg rs rc).1)), (bS, .inl (dS, 48, .inl (f_Ref_result p0 p1 rg rs rc).2)), (bM, .inl (dM, 16384, .inl rm))] := by
  refine k_entry (Qc := fun A => kQv D kCl [(dG, .int), (dS, .int), (dM, .int)] [(aT, .inr (11, [.ref bG, .ref bS, .ref bM, .int rl, .int rk, .int rr, .int re, .int rc, .int rd, .int ra, .int rb, .int rn, .int rf, .int rw])), (bG, .inl (dG, 32, .inl (f_Ref_result p0 p1 rg rs rc).1)), (bS, .inl (dS, 48, .inl (f_Ref_result p0 p1 rg rs rc).2)), (bM, .inl (dM, 16384, .inl rm))] A) (lv := [(0, .ref aT), (1, .int p0), (2, .int p1)]) (by decide) (Nat.le_of_ble_eq_true rfl) rfl ?_
  intro p e s m below meth c A ls hx hb hr hml hB hown hlocks hin hA hK hN hP hD hS hl
  have hown : s.vm.findClass "MappedProcessorModel" = some m.cls := hown
  refine lv_aload_n hx hb d_Ref_result_0 rfl (lv_at hl 0 rfl) ?_
  refine va_get (D := D) (ci := 11) (v := .ref bG) (C := "MappedProcessorModel") (T := T_Ref) (N := 14) hx hb hB iw_Ref hown hK hP 0 rfl rfl 0 (by decide) (hB _ mw_643) (fun _ h9 => h9) rfl d_Ref_result_1 ?_
  refine lv_iload_n hx hb d_Ref_result_4 rfl (lv_at hl 1 rfl) ?_
  refine lv_iload_n hx hb d_Ref_result_5 rfl (lv_at hl 2 rfl) ?_
  refine k_iast (j := (ix p0)) hx hb hK hP hD hS 1 0 rfl rfl rfl hp0 d_Ref_result_6 (fun H locs hP hD hS => ?_)
  have hP : va_P D kCl [(aT, .inr (11, [.ref bG, .ref bS, .ref bM, .int rl, .int rk, .int rr, .int re, .int rc, .int rd, .int ra, .int rb, .int rn, .int rf, .int rw])), (bG, .inl (dG, 32, .inl (upd rg (ix p0) p1))), (bS, .inl (dS, 48, .inl rs)), (bM, .inl (dM, 16384, .inl rm))] H := hP
  have hD : va_D A [(aT, .inr (11, [.ref bG, .ref bS, .ref bM, .int rl, .int rk, .int rr, .int re, .int rc, .int rd, .int ra, .int rb, .int rn, .int rf, .int rw])), (bG, .inl (dG, 32, .inl (upd rg (ix p0) p1))), (bS, .inl (dS, 48, .inl rs)), (bM, .inl (dM, 16384, .inl rm))] := hD
  refine lv_aload_n hx hb d_Ref_result_7 rfl (lv_at hl 0 rfl) ?_
  refine va_get (D := D) (ci := 11) (v := .int rc) (C := "MappedProcessorModel") (T := T_Ref) (N := 14) hx hb hB iw_Ref hown hK hP 0 rfl rfl 7 (by decide) (hB _ mw_650) (fun _ h9 => h9) rfl d_Ref_result_8 ?_
  refine lv_iconst (v := (1 : Int32)) hx hb d_Ref_result_11 (by decide) ?_
  refine lv_iand hx hb d_Ref_result_12 ?_
  refine lv_iconst (v := (1 : Int32)) hx hb d_Ref_result_13 (by decide) ?_
  refine lv_icmp_ne (tgt := 22) hx hb d_Ref_result_14 (by decide) (fun (h4 : ¬ (rc &&& (1 : Int32)) = (1 : Int32)) => ?_) (fun (h4 : (rc &&& (1 : Int32)) = (1 : Int32)) => ?_)
  · have ef : f_Ref_result p0 p1 rg rs rc = ((upd rg (ix p0) p1), rs) := by unfold f_Ref_result; rw [if_neg h4]
    exact k_vret hx hb hr hlocks hK hP hD hS [0, 1, 2, 3] rfl (by rw [ef] <;> rfl) d_Ref_result_22
  · refine lv_aload_n hx hb d_Ref_result_17 rfl (lv_at hl 0 rfl) ?_
    refine lv_iload_n hx hb d_Ref_result_18 rfl (lv_at hl 2 rfl) ?_
    refine k_cVv (As := [.int p1]) (rest := []) (wr := []) (wj := [(aT, .inr (11, [.ref bG, .ref bS, .ref bM, .int rl, .int rk, .int rr, .int re, .int rc, .int rd, .int ra, .int rb, .int rn, .int rf, .int rw])), (bG, .inl (dG, 32, .inl (upd rg (ix p0) p1))), (bS, .inl (dS, 48, .inl (f_Ref_noteResult p1 rs))), (bM, .inl (dM, 16384, .inl rm))]) ⟨hx, hb, hml, hown, hB⟩ (c_Ref_noteResult l D aT bG bS bM dG dS dM (upd rg (ix p0) p1) rs rm rl rk rr re rc rd ra rb rn rf rw p1) yl_Ref_noteResult mw_797 hK hN hP hD hS hA [0, 1, 2] [0, 1, 2, 3] [] [0, 1, 2, 3] rfl rfl rfl rfl (by decide +kernel) 0 rfl rfl rfl rfl hl.1 rfl (Nat.le_of_ble_eq_true rfl) ⟨Nat.le_of_ble_eq_true rfl, Nat.le_of_ble_eq_true rfl⟩ d_Ref_result_19 ⟨Nat.le_of_ble_eq_true rfl, Nat.le_of_ble_eq_true rfl⟩ (fun H locs hP hD hS => ?_)
    have ef : f_Ref_result p0 p1 rg rs rc = ((upd rg (ix p0) p1), (f_Ref_noteResult p1 rs)) := by unfold f_Ref_result; rw [if_pos h4]
    exact k_vret hx hb hr hlocks hK hP hD hS [0, 1, 2, 3] rfl (by rw [ef] <;> rfl) d_Ref_result_22
/-! MappedProcessorModel.rotate(I)V -/
theorem d_Ref_rotate_0 : decode b_Ref_rotate 0 = .ok (.aload_n 0, 1) := by decide +kernel
theorem d_Ref_rotate_1 : decode b_Ref_rotate 1 = .ok (.getfield 79, 3) := by decide +kernel
theorem d_Ref_rotate_4 : decode b_Ref_rotate 4 = .ok (.bipush 6, 2) := by decide +kernel
theorem d_Ref_rotate_6 : decode b_Ref_rotate 6 = .ok (.ishr, 1) := by decide +kernel
theorem d_Ref_rotate_7 : decode b_Ref_rotate 7 = .ok (.bipush 31, 2) := by decide +kernel
theorem d_Ref_rotate_9 : decode b_Ref_rotate 9 = .ok (.iand, 1) := by decide +kernel
theorem d_Ref_rotate_10 : decode b_Ref_rotate 10 = .ok (.aload_n 0, 1) := by decide +kernel
theorem d_Ref_rotate_11 : decode b_Ref_rotate 11 = .ok (.getfield 79, 3) := by decide +kernel
theorem d_Ref_rotate_14 : decode b_Ref_rotate 14 = .ok (.iconst 1, 1) := by decide +kernel
theorem d_Ref_rotate_15 : decode b_Ref_rotate 15 = .ok (.ishr, 1) := by decide +kernel
theorem d_Ref_rotate_16 : decode b_Ref_rotate 16 = .ok (.bipush 31, 2) := by decide +kernel
theorem d_Ref_rotate_18 : decode b_Ref_rotate 18 = .ok (.iand, 1) := by decide +kernel
theorem d_Ref_rotate_19 : decode b_Ref_rotate 19 = .ok (.invokestatic 169, 3) := by decide +kernel
theorem d_Ref_rotate_22 : decode b_Ref_rotate 22 = .ok (.istore_n 2, 1) := by decide +kernel
theorem d_Ref_rotate_23 : decode b_Ref_rotate 23 = .ok (.aload_n 0, 1) := by decide +kernel
theorem d_Ref_rotate_24 : decode b_Ref_rotate 24 = .ok (.getfield 7, 3) := by decide +kernel
theorem d_Ref_rotate_27 : decode b_Ref_rotate 27 = .ok (.aload_n 0, 1) := by decide +kernel
theorem d_Ref_rotate_28 : decode b_Ref_rotate 28 = .ok (.getfield 82, 3) := by decide +kernel
theorem d_Ref_rotate_31 : decode b_Ref_rotate 31 = .ok (.iaload, 1) := by decide +kernel
theorem d_Ref_rotate_32 : decode b_Ref_rotate 32 = .ok (.iload_n 1, 1) := by decide +kernel
theorem d_Ref_rotate_33 : decode b_Ref_rotate 33 = .ok (.bipush 23, 2) := by decide +kernel
theorem d_Ref_rotate_35 : decode b_Ref_rotate 35 = .ok (.if_icmp .ne 18, 3) := by decide +kernel
theorem d_Ref_rotate_38 : decode b_Ref_rotate 38 = .ok (.aload_n 0, 1) := by decide +kernel
theorem d_Ref_rotate_39 : decode b_Ref_rotate 39 = .ok (.getfield 7, 3) := by decide +kernel
theorem d_Ref_rotate_42 : decode b_Ref_rotate 42 = .ok (.aload_n 0, 1) := by decide +kernel
theorem d_Ref_rotate_43 : decode b_Ref_rotate 43 = .ok (.getfield 88, 3) := by decide +kernel
theorem d_Ref_rotate_46 : decode b_Ref_rotate 46 = .ok (.iaload, 1) := by decide +kernel
theorem d_Ref_rotate_47 : decode b_Ref_rotate 47 = .ok (.bipush 31, 2) := by decide +kernel
theorem d_Ref_rotate_49 : decode b_Ref_rotate 49 = .ok (.iand, 1) := by decide +kernel
theorem d_Ref_rotate_50 : decode b_Ref_rotate 50 = .ok (.goto 7, 3) := by decide +kernel
theorem d_Ref_rotate_53 : decode b_Ref_rotate 53 = .ok (.aload_n 0, 1) := by decide +kernel
theorem d_Ref_rotate_54 : decode b_Ref_rotate 54 = .ok (.getfield 88, 3) := by decide +kernel
theorem d_Ref_rotate_57 : decode b_Ref_rotate 57 = .ok (.invokestatic 172, 3) := by decide +kernel
theorem d_Ref_rotate_60 : decode b_Ref_rotate 60 = .ok (.istore_n 3, 1) := by decide +kernel
theorem d_Ref_rotate_61 : decode b_Ref_rotate 61 = .ok (.aload_n 0, 1) := by decide +kernel
theorem d_Ref_rotate_62 : decode b_Ref_rotate 62 = .ok (.aload_n 0, 1) := by decide +kernel
theorem d_Ref_rotate_63 : decode b_Ref_rotate 63 = .ok (.getfield 85, 3) := by decide +kernel
theorem d_Ref_rotate_66 : decode b_Ref_rotate 66 = .ok (.iload_n 1, 1) := by decide +kernel
theorem d_Ref_rotate_67 : decode b_Ref_rotate 67 = .ok (.bipush 20, 2) := by decide +kernel
theorem d_Ref_rotate_69 : decode b_Ref_rotate 69 = .ok (.if_icmp .ne 23, 3) := by decide +kernel
theorem d_Ref_rotate_72 : decode b_Ref_rotate 72 = .ok (.aload_n 0, 1) := by decide +kernel
theorem d_Ref_rotate_73 : decode b_Ref_rotate 73 = .ok (.getfield 7, 3) := by decide +kernel
theorem d_Ref_rotate_76 : decode b_Ref_rotate 76 = .ok (.aload_n 0, 1) := by decide +kernel
theorem d_Ref_rotate_77 : decode b_Ref_rotate 77 = .ok (.getfield 85, 3) := by decide +kernel
theorem d_Ref_rotate_80 : decode b_Ref_rotate 80 = .ok (.iaload, 1) := by decide +kernel
theorem d_Ref_rotate_81 : decode b_Ref_rotate 81 = .ok (.iload_n 2, 1) := by decide +kernel
theorem d_Ref_rotate_82 : decode b_Ref_rotate 82 = .ok (.iconst (-1), 1) := by decide +kernel
theorem d_Ref_rotate_83 : decode b_Ref_rotate 83 = .ok (.ixor, 1) := by decide +kernel
theorem d_Ref_rotate_84 : decode b_Ref_rotate 84 = .ok (.iand, 1) := by decide +kernel
theorem d_Ref_rotate_85 : decode b_Ref_rotate 85 = .ok (.iload_n 3, 1) := by decide +kernel
theorem d_Ref_rotate_86 : decode b_Ref_rotate 86 = .ok (.iload_n 2, 1) := by decide +kernel
theorem d_Ref_rotate_87 : decode b_Ref_rotate 87 = .ok (.iand, 1) := by decide +kernel
theorem d_Ref_rotate_88 : decode b_Ref_rotate 88 = .ok (.ior, 1) := by decide +kernel
theorem d_Ref_rotate_89 : decode b_Ref_rotate 89 = .ok (.goto 6, 3) := by decide +kernel
theorem d_Ref_rotate_92 : decode b_Ref_rotate 92 = .ok (.iload_n 3, 1) := by decide +kernel
theorem d_Ref_rotate_93 : decode b_Ref_rotate 93 = .ok (.iload_n 2, 1) := by decide +kernel
theorem d_Ref_rotate_94 : decode b_Ref_rotate 94 = .ok (.iand, 1) := by decide +kernel
theorem d_Ref_rotate_95 : decode b_Ref_rotate 95 = .ok (.invokevirtual 175, 3) := by decide +kernel
theorem d_Ref_rotate_98 : decode b_Ref_rotate 98 = .ok (.return_, 1) := by decide +kernel
def f_Ref_rotate (p0 : Int32) (rg : Nat → Int32) (rs : Nat → Int32) (rc : Int32) (rd : Int32) (ra : Int32) (rb : Int32) : (Nat → Int32) × (Nat → Int32) :=
  let t11 := (f_Ref_result ra (if p0 = (20 : Int32) then (((rg (ix ra)) &&& ((f_Ref_mask ((shr rc (6 : Int32)) &&& (31 : Int32)) ((shr rc (1 : Int32)) &&& (31 : Int32))) ^^^ (-1 : Int32))) ||| ((f_Ref_turned (rg (ix rd)) (if p0 = (23 : Int32) then ((rg (ix rb)) &&& (31 : Int32)) else rb)) &&& (f_Ref_mask ((shr rc (6 : Int32)) &&& (31 : Int32)) ((shr rc (1 : Int32)) &&& (31 : Int32))))) else ((f_Ref_turned (rg (ix rd)) (if p0 = (23 : Int32) then ((rg (ix rb)) &&& (31 : Int32)) else rb)) &&& (f_Ref_mask ((shr rc (6 : Int32)) &&& (31 : Int32)) ((shr rc (1 : Int32)) &&& (31 : Int32))))) rg rs rc)
  (t11.1, t11.2)
set_option maxHeartbeats 4000000 in
set_option maxRecDepth 100000 in
theorem c_Ref_rotate (l : Launch) (D : va_G) (aT bG bS bM : Nat) (dG dS dM : ClassId) (rg : Nat → Int32) (rs : Nat → Int32) (rm : Nat → Int32) (rl : Int32) (rk : Int32) (rr : Int32) (re : Int32) (rc : Int32) (rd : Int32) (ra : Int32) (rb : Int32) (rn : Int32) (rf : Int32) (rw : Int32) (p0 : Int32) (hra : vp_in ra 32) (hrd : vp_in rd 32) (hrb : vp_in rb 32) : kMv l y_Ref_rotate b_Ref_rotate 4 none 4 92 D kCl [(dG, .int), (dS, .int), (dM, .int)] [.ref aT, .int p0] [(aT, .inr (11, [.ref bG, .ref bS, .ref bM, .int rl, .int rk, .int rr, .int re, .int rc, .int rd, .int ra, .int rb, .int rn, .int rf, .int rw])), (bG, .inl (dG, 32, .inl rg)), (bS, .inl (dS, 48, .inl rs)), (bM, .inl (dM, 16384, .inl rm))] [(aT, .inr (11, [.ref bG, .ref bS, .ref bM, .int rl, .int rk, .int rr, .int re, .int rc, .int rd, .int ra, .int rb, .int rn, .int rf, .int rw])), (bG, .inl (dG, 32, .inl (f_Ref_rotate p0 rg rs rc rd ra rb).1)), (bS, .inl (dS, 48, .inl (f_Ref_rotate p0 rg rs rc rd ra rb).2)), (bM, .inl (dM, 16384, .inl rm))] := by
  refine k_entry (Qc := fun A => kQv D kCl [(dG, .int), (dS, .int), (dM, .int)] [(aT, .inr (11, [.ref bG, .ref bS, .ref bM, .int rl, .int rk, .int rr, .int re, .int rc, .int rd, .int ra, .int rb, .int rn, .int rf, .int rw])), (bG, .inl (dG, 32, .inl (f_Ref_rotate p0 rg rs rc rd ra rb).1)), (bS, .inl (dS, 48, .inl (f_Ref_rotate p0 rg rs rc rd ra rb).2)), (bM, .inl (dM, 16384, .inl rm))] A) (lv := [(0, .ref aT), (1, .int p0)]) (by decide) (Nat.le_of_ble_eq_true rfl) rfl ?_
  intro p e s m below meth c A ls hx hb hr hml hB hown hlocks hin hA hK hN hP hD hS hl
  have hown : s.vm.findClass "MappedProcessorModel" = some m.cls := hown
  refine lv_aload_n hx hb d_Ref_rotate_0 rfl (lv_at hl 0 rfl) ?_
  refine va_get (D := D) (ci := 11) (v := .int rc) (C := "MappedProcessorModel") (T := T_Ref) (N := 14) hx hb hB iw_Ref hown hK hP 0 rfl rfl 7 (by decide) (hB _ mw_650) (fun _ h9 => h9) rfl d_Ref_rotate_1 ?_
  refine lv_bipush (v := (6 : Int32)) hx hb d_Ref_rotate_4 (by decide) ?_
  refine lv_ishr hx hb d_Ref_rotate_6 ?_
  refine lv_bipush (v := (31 : Int32)) hx hb d_Ref_rotate_7 (by decide) ?_
  refine lv_iand hx hb d_Ref_rotate_9 ?_
  refine lv_aload_n hx hb d_Ref_rotate_10 rfl (lv_at hl 0 rfl) ?_
  refine va_get (D := D) (ci := 11) (v := .int rc) (C := "MappedProcessorModel") (T := T_Ref) (N := 14) hx hb hB iw_Ref hown hK hP 0 rfl rfl 7 (by decide) (hB _ mw_650) (fun _ h9 => h9) rfl d_Ref_rotate_11 ?_
  refine lv_iconst (v := (1 : Int32)) hx hb d_Ref_rotate_14 (by decide) ?_
  refine lv_ishr hx hb d_Ref_rotate_15 ?_
  refine lv_bipush (v := (31 : Int32)) hx hb d_Ref_rotate_16 (by decide) ?_
  refine lv_iand hx hb d_Ref_rotate_18 ?_
  refine k_cSi (As := [.int ((shr rc (6 : Int32)) &&& (31 : Int32)), .int ((shr rc (1 : Int32)) &&& (31 : Int32))]) (rest := []) (wr := [(aT, .inr (11, [.ref bG, .ref bS, .ref bM, .int rl, .int rk, .int rr, .int re, .int rc, .int rd, .int ra, .int rb, .int rn, .int rf, .int rw])), (bG, .inl (dG, 32, .inl rg)), (bS, .inl (dS, 48, .inl rs)), (bM, .inl (dM, 16384, .inl rm))]) (wj := [(aT, .inr (11, [.ref bG, .ref bS, .ref bM, .int rl, .int rk, .int rr, .int re, .int rc, .int rd, .int ra, .int rb, .int rn, .int rf, .int rw])), (bG, .inl (dG, 32, .inl rg)), (bS, .inl (dS, 48, .inl rs)), (bM, .inl (dM, 16384, .inl rm))]) ⟨hx, hb, hml, hown, hB⟩ (c_Ref_mask l D ((shr rc (6 : Int32)) &&& (31 : Int32)) ((shr rc (1 : Int32)) &&& (31 : Int32))) yl_Ref_mask mw_836 hK hN hP hD hS hA [] [] [0, 1, 2, 3] [0, 1, 2, 3] rfl rfl rfl rfl (by decide +kernel) rfl hl.1 rfl (Nat.le_of_ble_eq_true rfl) ⟨Nat.le_of_ble_eq_true rfl, Nat.le_of_ble_eq_true rfl⟩ d_Ref_rotate_19 ⟨Nat.le_of_ble_eq_true rfl, Nat.le_of_ble_eq_true rfl⟩ (fun H locs hP hD hS => ?_)
  refine lv_istore_n (lv' := [(2, .int (f_Ref_mask ((shr rc (6 : Int32)) &&& (31 : Int32)) ((shr rc (1 : Int32)) &&& (31 : Int32)))), (0, .ref aT), (1, .int p0)]) hx hb d_Ref_rotate_22 rfl hl (by decide) rfl (fun ls hl => ?_)
  refine lv_aload_n hx hb d_Ref_rotate_23 rfl (lv_at hl 1 rfl) ?_
  refine va_get (D := D) (ci := 11) (v := .ref bG) (C := "MappedProcessorModel") (T := T_Ref) (N := 14) hx hb hB iw_Ref hown hK hP 0 rfl rfl 0 (by decide) (hB _ mw_643) (fun _ h9 => h9) rfl d_Ref_rotate_24 ?_
  refine lv_aload_n hx hb d_Ref_rotate_27 rfl (lv_at hl 1 rfl) ?_
  refine va_get (D := D) (ci := 11) (v := .int rd) (C := "MappedProcessorModel") (T := T_Ref) (N := 14) hx hb hB iw_Ref hown hK hP 0 rfl rfl 8 (by decide) (hB _ mw_651) (fun _ h9 => h9) rfl d_Ref_rotate_28 ?_
  refine k_iald (j := (ix rd)) hx hb hK hP 1 0 rfl rfl rfl hrd d_Ref_rotate_31 ?_
  refine lv_iload_n hx hb d_Ref_rotate_32 rfl (lv_at hl 2 rfl) ?_
  refine lv_bipush (v := (23 : Int32)) hx hb d_Ref_rotate_33 (by decide) ?_
  refine k_join2 (c0 := p0 = (23 : Int32)) (x1 := ((rg (ix rb)) &&& (31 : Int32))) (x2 := rb) (rest := [.int (rg (ix rd))]) 57 ?_ (fun k2 k3 => ?_)
  rotate_left
  · refine lv_icmp_ne (tgt := 53) hx hb d_Ref_rotate_35 (by decide) (fun (h1 : ¬ p0 = (23 : Int32)) => ?_) (fun (h1 : p0 = (23 : Int32)) => ?_)
    · refine lv_aload_n hx hb d_Ref_rotate_53 rfl (lv_at hl 1 rfl) ?_
      refine va_get (D := D) (ci := 11) (v := .int rb) (C := "MappedProcessorModel") (T := T_Ref) (N := 14) hx hb hB iw_Ref hown hK hP 0 rfl rfl 10 (by decide) (hB _ mw_653) (fun _ h9 => h9) rfl d_Ref_rotate_54 ?_
      exact k3 h1
    · refine lv_aload_n hx hb d_Ref_rotate_38 rfl (lv_at hl 1 rfl) ?_
      refine va_get (D := D) (ci := 11) (v := .ref bG) (C := "MappedProcessorModel") (T := T_Ref) (N := 14) hx hb hB iw_Ref hown hK hP 0 rfl rfl 0 (by decide) (hB _ mw_643) (fun _ h9 => h9) rfl d_Ref_rotate_39 ?_
      refine lv_aload_n hx hb d_Ref_rotate_42 rfl (lv_at hl 1 rfl) ?_
      refine va_get (D := D) (ci := 11) (v := .int rb) (C := "MappedProcessorModel") (T := T_Ref) (N := 14) hx hb hB iw_Ref hown hK hP 0 rfl rfl 10 (by decide) (hB _ mw_653) (fun _ h9 => h9) rfl d_Ref_rotate_43 ?_
      refine k_iald (j := (ix rb)) hx hb hK hP 1 0 rfl rfl rfl hrb d_Ref_rotate_46 ?_
      refine lv_bipush (v := (31 : Int32)) hx hb d_Ref_rotate_47 (by decide) ?_
      refine lv_iand hx hb d_Ref_rotate_49 ?_
      refine lv_goto (tgt := 57) hx hb d_Ref_rotate_50 (by decide) ?_
      exact k2 h1
  refine k_cSi (As := [.int (rg (ix rd)), .int (if p0 = (23 : Int32) then ((rg (ix rb)) &&& (31 : Int32)) else rb)]) (rest := []) (wr := [(aT, .inr (11, [.ref bG, .ref bS, .ref bM, .int rl, .int rk, .int rr, .int re, .int rc, .int rd, .int ra, .int rb, .int rn, .int rf, .int rw])), (bG, .inl (dG, 32, .inl rg)), (bS, .inl (dS, 48, .inl rs)), (bM, .inl (dM, 16384, .inl rm))]) (wj := [(aT, .inr (11, [.ref bG, .ref bS, .ref bM, .int rl, .int rk, .int rr, .int re, .int rc, .int rd, .int ra, .int rb, .int rn, .int rf, .int rw])), (bG, .inl (dG, 32, .inl rg)), (bS, .inl (dS, 48, .inl rs)), (bM, .inl (dM, 16384, .inl rm))]) ⟨hx, hb, hml, hown, hB⟩ (c_Ref_turned l D (rg (ix rd)) (if p0 = (23 : Int32) then ((rg (ix rb)) &&& (31 : Int32)) else rb) (by split; exact ix32 _; exact hrb)) yl_Ref_turned mw_839 hK hN hP hD hS hA [] [] [0, 1, 2, 3] [0, 1, 2, 3] rfl rfl rfl rfl (by decide +kernel) rfl hl.1 rfl (Nat.le_of_ble_eq_true rfl) ⟨Nat.le_of_ble_eq_true rfl, Nat.le_of_ble_eq_true rfl⟩ d_Ref_rotate_57 ⟨Nat.le_of_ble_eq_true rfl, Nat.le_of_ble_eq_true rfl⟩ (fun H locs hP hD hS => ?_)
  refine lv_istore_n (lv' := [(3, .int (f_Ref_turned (rg (ix rd)) (if p0 = (23 : Int32) then ((rg (ix rb)) &&& (31 : Int32)) else rb))), (2, .int (f_Ref_mask ((shr rc (6 : Int32)) &&& (31 : Int32)) ((shr rc (1 : Int32)) &&& (31 : Int32)))), (0, .ref aT), (1, .int p0)]) hx hb d_Ref_rotate_60 rfl hl (by decide) rfl (fun ls hl => ?_)
  refine lv_aload_n hx hb d_Ref_rotate_61 rfl (lv_at hl 2 rfl) ?_
  refine lv_aload_n hx hb d_Ref_rotate_62 rfl (lv_at hl 2 rfl) ?_
  refine va_get (D := D) (ci := 11) (v := .int ra) (C := "MappedProcessorModel") (T := T_Ref) (N := 14) hx hb hB iw_Ref hown hK hP 0 rfl rfl 9 (by decide) (hB _ mw_652) (fun _ h9 => h9) rfl d_Ref_rotate_63 ?_
  refine lv_iload_n hx hb d_Ref_rotate_66 rfl (lv_at hl 3 rfl) ?_
  refine lv_bipush (v := (20 : Int32)) hx hb d_Ref_rotate_67 (by decide) ?_
  refine k_join2 (c0 := p0 = (20 : Int32)) (x1 := (((rg (ix ra)) &&& ((f_Ref_mask ((shr rc (6 : Int32)) &&& (31 : Int32)) ((shr rc (1 : Int32)) &&& (31 : Int32))) ^^^ (-1 : Int32))) ||| ((f_Ref_turned (rg (ix rd)) (if p0 = (23 : Int32) then ((rg (ix rb)) &&& (31 : Int32)) else rb)) &&& (f_Ref_mask ((shr rc (6 : Int32)) &&& (31 : Int32)) ((shr rc (1 : Int32)) &&& (31 : Int32)))))) (x2 := ((f_Ref_turned (rg (ix rd)) (if p0 = (23 : Int32) then ((rg (ix rb)) &&& (31 : Int32)) else rb)) &&& (f_Ref_mask ((shr rc (6 : Int32)) &&& (31 : Int32)) ((shr rc (1 : Int32)) &&& (31 : Int32))))) (rest := [.int ra, .ref aT]) 95 ?_ (fun k7 k8 => ?_)
  rotate_left
  · refine lv_icmp_ne (tgt := 92) hx hb d_Ref_rotate_69 (by decide) (fun (h6 : ¬ p0 = (20 : Int32)) => ?_) (fun (h6 : p0 = (20 : Int32)) => ?_)
    · refine lv_iload_n hx hb d_Ref_rotate_92 rfl (lv_at hl 0 rfl) ?_
      refine lv_iload_n hx hb d_Ref_rotate_93 rfl (lv_at hl 1 rfl) ?_
      refine lv_iand hx hb d_Ref_rotate_94 ?_
      exact k8 h6
    · refine lv_aload_n hx hb d_Ref_rotate_72 rfl (lv_at hl 2 rfl) ?_
      refine va_get (D := D) (ci := 11) (v := .ref bG) (C := "MappedProcessorModel") (T := T_Ref) (N := 14) hx hb hB iw_Ref hown hK hP 0 rfl rfl 0 (by decide) (hB _ mw_643) (fun _ h9 => h9) rfl d_Ref_rotate_73 ?_
      refine lv_aload_n hx hb d_Ref_rotate_76 rfl (lv_at hl 2 rfl) ?_
      refine va_get (D := D) (ci := 11) (v := .int ra) (C := "MappedProcessorModel") (T := T_Ref) (N := 14) hx hb hB iw_Ref hown hK hP 0 rfl rfl 9 (by decide) (hB _ mw_652) (fun _ h9 => h9) rfl d_Ref_rotate_77 ?_
      refine k_iald (j := (ix ra)) hx hb hK hP 1 0 rfl rfl rfl hra d_Ref_rotate_80 ?_
      refine lv_iload_n hx hb d_Ref_rotate_81 rfl (lv_at hl 1 rfl) ?_
      refine lv_iconst (v := (-1 : Int32)) hx hb d_Ref_rotate_82 (by decide) ?_
      refine lv_ixor hx hb d_Ref_rotate_83 ?_
      refine lv_iand hx hb d_Ref_rotate_84 ?_
      refine lv_iload_n hx hb d_Ref_rotate_85 rfl (lv_at hl 0 rfl) ?_
      refine lv_iload_n hx hb d_Ref_rotate_86 rfl (lv_at hl 1 rfl) ?_
      refine lv_iand hx hb d_Ref_rotate_87 ?_
      refine lv_ior hx hb d_Ref_rotate_88 ?_
      refine lv_goto (tgt := 95) hx hb d_Ref_rotate_89 (by decide) ?_
      exact k7 h6
  let t11 := (f_Ref_result ra (if p0 = (20 : Int32) then (((rg (ix ra)) &&& ((f_Ref_mask ((shr rc (6 : Int32)) &&& (31 : Int32)) ((shr rc (1 : Int32)) &&& (31 : Int32))) ^^^ (-1 : Int32))) ||| ((f_Ref_turned (rg (ix rd)) (if p0 = (23 : Int32) then ((rg (ix rb)) &&& (31 : Int32)) else rb)) &&& (f_Ref_mask ((shr rc (6 : Int32)) &&& (31 : Int32)) ((shr rc (1 : Int32)) &&& (31 : Int32))))) else ((f_Ref_turned (rg (ix rd)) (if p0 = (23 : Int32) then ((rg (ix rb)) &&& (31 : Int32)) else rb)) &&& (f_Ref_mask ((shr rc (6 : Int32)) &&& (31 : Int32)) ((shr rc (1 : Int32)) &&& (31 : Int32))))) rg rs rc)
  refine k_cVv (As := [.int ra, .int (if p0 = (20 : Int32) then (((rg (ix ra)) &&& ((f_Ref_mask ((shr rc (6 : Int32)) &&& (31 : Int32)) ((shr rc (1 : Int32)) &&& (31 : Int32))) ^^^ (-1 : Int32))) ||| ((f_Ref_turned (rg (ix rd)) (if p0 = (23 : Int32) then ((rg (ix rb)) &&& (31 : Int32)) else rb)) &&& (f_Ref_mask ((shr rc (6 : Int32)) &&& (31 : Int32)) ((shr rc (1 : Int32)) &&& (31 : Int32))))) else ((f_Ref_turned (rg (ix rd)) (if p0 = (23 : Int32) then ((rg (ix rb)) &&& (31 : Int32)) else rb)) &&& (f_Ref_mask ((shr rc (6 : Int32)) &&& (31 : Int32)) ((shr rc (1 : Int32)) &&& (31 : Int32)))))]) (rest := []) (wr := []) (wj := [(aT, .inr (11, [.ref bG, .ref bS, .ref bM, .int rl, .int rk, .int rr, .int re, .int rc, .int rd, .int ra, .int rb, .int rn, .int rf, .int rw])), (bG, .inl (dG, 32, .inl t11.1)), (bS, .inl (dS, 48, .inl t11.2)), (bM, .inl (dM, 16384, .inl rm))]) ⟨hx, hb, hml, hown, hB⟩ (c_Ref_result l D aT bG bS bM dG dS dM rg rs rm rl rk rr re rc rd ra rb rn rf rw ra (if p0 = (20 : Int32) then (((rg (ix ra)) &&& ((f_Ref_mask ((shr rc (6 : Int32)) &&& (31 : Int32)) ((shr rc (1 : Int32)) &&& (31 : Int32))) ^^^ (-1 : Int32))) ||| ((f_Ref_turned (rg (ix rd)) (if p0 = (23 : Int32) then ((rg (ix rb)) &&& (31 : Int32)) else rb)) &&& (f_Ref_mask ((shr rc (6 : Int32)) &&& (31 : Int32)) ((shr rc (1 : Int32)) &&& (31 : Int32))))) else ((f_Ref_turned (rg (ix rd)) (if p0 = (23 : Int32) then ((rg (ix rb)) &&& (31 : Int32)) else rb)) &&& (f_Ref_mask ((shr rc (6 : Int32)) &&& (31 : Int32)) ((shr rc (1 : Int32)) &&& (31 : Int32))))) hra) yl_Ref_result mw_842 hK hN hP hD hS hA [0, 1, 2] [0, 1, 2, 3] [] [0, 1, 2, 3] rfl rfl rfl rfl (by decide +kernel) 0 rfl rfl rfl rfl hl.1 rfl (Nat.le_of_ble_eq_true rfl) ⟨Nat.le_of_ble_eq_true rfl, Nat.le_of_ble_eq_true rfl⟩ d_Ref_rotate_95 ⟨Nat.le_of_ble_eq_true rfl, Nat.le_of_ble_eq_true rfl⟩ (fun H locs hP hD hS => ?_)
  have ef : f_Ref_rotate p0 rg rs rc rd ra rb = (t11.1, t11.2) := by unfold f_Ref_rotate; try dsimp only
  exact k_vret hx hb hr hlocks hK hP hD hS [0, 1, 2, 3] rfl (by rw [ef] <;> rfl) d_Ref_rotate_98
/-! MappedProcessorModel.logical(I)V -/
theorem d_Ref_logical_0 : decode b_Ref_logical 0 = .ok (.aload_n 0, 1) := by decide +kernel
theorem d_Ref_logical_1 : decode b_Ref_logical 1 = .ok (.getfield 79, 3) := by decide +kernel
theorem d_Ref_logical_4 : decode b_Ref_logical 4 = .ok (.ldc 42, 2) := by decide +kernel
theorem d_Ref_logical_6 : decode b_Ref_logical 6 = .ok (.iand, 1) := by decide +kernel
theorem d_Ref_logical_7 : decode b_Ref_logical 7 = .ok (.istore_n 2, 1) := by decide +kernel
theorem d_Ref_logical_8 : decode b_Ref_logical 8 = .ok (.iload_n 1, 1) := by decide +kernel
theorem d_Ref_logical_9 : decode b_Ref_logical 9 = .ok (.iconst 1, 1) := by decide +kernel
theorem d_Ref_logical_10 : decode b_Ref_logical 10 = .ok (.iand, 1) := by decide +kernel
theorem d_Ref_logical_11 : decode b_Ref_logical 11 = .ok (.iconst 1, 1) := by decide +kernel
theorem d_Ref_logical_12 : decode b_Ref_logical 12 = .ok (.if_icmp .ne 10, 3) := by decide +kernel
theorem d_Ref_logical_15 : decode b_Ref_logical 15 = .ok (.iload_n 2, 1) := by decide +kernel
theorem d_Ref_logical_16 : decode b_Ref_logical 16 = .ok (.bipush 16, 2) := by decide +kernel
theorem d_Ref_logical_18 : decode b_Ref_logical 18 = .ok (.ishl, 1) := by decide +kernel
theorem d_Ref_logical_19 : decode b_Ref_logical 19 = .ok (.goto 4, 3) := by decide +kernel
theorem d_Ref_logical_22 : decode b_Ref_logical 22 = .ok (.iload_n 2, 1) := by decide +kernel
theorem d_Ref_logical_23 : decode b_Ref_logical 23 = .ok (.istore_n 3, 1) := by decide +kernel
theorem d_Ref_logical_24 : decode b_Ref_logical 24 = .ok (.aload_n 0, 1) := by decide +kernel
theorem d_Ref_logical_25 : decode b_Ref_logical 25 = .ok (.getfield 7, 3) := by decide +kernel
theorem d_Ref_logical_28 : decode b_Ref_logical 28 = .ok (.aload_n 0, 1) := by decide +kernel
theorem d_Ref_logical_29 : decode b_Ref_logical 29 = .ok (.getfield 82, 3) := by decide +kernel
theorem d_Ref_logical_32 : decode b_Ref_logical 32 = .ok (.iaload, 1) := by decide +kernel
theorem d_Ref_logical_33 : decode b_Ref_logical 33 = .ok (.istore 4, 2) := by decide +kernel
theorem d_Ref_logical_35 : decode b_Ref_logical 35 = .ok (.aload_n 0, 1) := by decide +kernel
theorem d_Ref_logical_36 : decode b_Ref_logical 36 = .ok (.getfield 7, 3) := by decide +kernel
theorem d_Ref_logical_39 : decode b_Ref_logical 39 = .ok (.aload_n 0, 1) := by decide +kernel
theorem d_Ref_logical_40 : decode b_Ref_logical 40 = .ok (.getfield 85, 3) := by decide +kernel
theorem d_Ref_logical_43 : decode b_Ref_logical 43 = .ok (.iload_n 1, 1) := by decide +kernel
theorem d_Ref_logical_44 : decode b_Ref_logical 44 = .ok (.bipush 26, 2) := by decide +kernel
theorem d_Ref_logical_46 : decode b_Ref_logical 46 = .ok (.if_icmp .ge 10, 3) := by decide +kernel
theorem d_Ref_logical_49 : decode b_Ref_logical 49 = .ok (.iload 4, 2) := by decide +kernel
theorem d_Ref_logical_51 : decode b_Ref_logical 51 = .ok (.iload_n 3, 1) := by decide +kernel
theorem d_Ref_logical_52 : decode b_Ref_logical 52 = .ok (.ior, 1) := by decide +kernel
theorem d_Ref_logical_53 : decode b_Ref_logical 53 = .ok (.goto 20, 3) := by decide +kernel
theorem d_Ref_logical_56 : decode b_Ref_logical 56 = .ok (.iload_n 1, 1) := by decide +kernel
theorem d_Ref_logical_57 : decode b_Ref_logical 57 = .ok (.bipush 28, 2) := by decide +kernel
theorem d_Ref_logical_59 : decode b_Ref_logical 59 = .ok (.if_icmp .ge 10, 3) := by decide +kernel
theorem d_Ref_logical_62 : decode b_Ref_logical 62 = .ok (.iload 4, 2) := by decide +kernel
theorem d_Ref_logical_64 : decode b_Ref_logical 64 = .ok (.iload_n 3, 1) := by decide +kernel
theorem d_Ref_logical_65 : decode b_Ref_logical 65 = .ok (.ixor, 1) := by decide +kernel
theorem d_Ref_logical_66 : decode b_Ref_logical 66 = .ok (.goto 7, 3) := by decide +kernel
theorem d_Ref_logical_69 : decode b_Ref_logical 69 = .ok (.iload 4, 2) := by decide +kernel
theorem d_Ref_logical_71 : decode b_Ref_logical 71 = .ok (.iload_n 3, 1) := by decide +kernel
theorem d_Ref_logical_72 : decode b_Ref_logical 72 = .ok (.iand, 1) := by decide +kernel
theorem d_Ref_logical_73 : decode b_Ref_logical 73 = .ok (.iastore, 1) := by decide +kernel
theorem d_Ref_logical_74 : decode b_Ref_logical 74 = .ok (.iload_n 1, 1) := by decide +kernel
theorem d_Ref_logical_75 : decode b_Ref_logical 75 = .ok (.bipush 27, 2) := by decide +kernel
theorem d_Ref_logical_77 : decode b_Ref_logical 77 = .ok (.if_icmp .le 16, 3) := by decide +kernel
theorem d_Ref_logical_80 : decode b_Ref_logical 80 = .ok (.aload_n 0, 1) := by decide +kernel
theorem d_Ref_logical_81 : decode b_Ref_logical 81 = .ok (.aload_n 0, 1) := by decide +kernel
theorem d_Ref_logical_82 : decode b_Ref_logical 82 = .ok (.getfield 7, 3) := by decide +kernel
theorem d_Ref_logical_85 : decode b_Ref_logical 85 = .ok (.aload_n 0, 1) := by decide +kernel
theorem d_Ref_logical_86 : decode b_Ref_logical 86 = .ok (.getfield 85, 3) := by decide +kernel
theorem d_Ref_logical_89 : decode b_Ref_logical 89 = .ok (.iaload, 1) := by decide +kernel
theorem d_Ref_logical_90 : decode b_Ref_logical 90 = .ok (.invokevirtual 113, 3) := by decide +kernel
theorem d_Ref_logical_93 : decode b_Ref_logical 93 = .ok (.return_, 1) := by decide +kernel
def f_Ref_logical (p0 : Int32) (rg : Nat → Int32) (rs : Nat → Int32) (rc : Int32) (rd : Int32) (ra : Int32) : (Nat → Int32) × (Nat → Int32) :=
  if p0 ≤ (27 : Int32) then
    ((upd rg (ix ra) (if (26 : Int32) ≤ p0 then (if (28 : Int32) ≤ p0 then ((rg (ix rd)) &&& (if (p0 &&& (1 : Int32)) = (1 : Int32) then (shl (rc &&& (65535 : Int32)) (16 : Int32)) else (rc &&& (65535 : Int32)))) else ((rg (ix rd)) ^^^ (if (p0 &&& (1 : Int32)) = (1 : Int32) then (shl (rc &&& (65535 : Int32)) (16 : Int32)) else (rc &&& (65535 : Int32))))) else ((rg (ix rd)) ||| (if (p0 &&& (1 : Int32)) = (1 : Int32) then (shl (rc &&& (65535 : Int32)) (16 : Int32)) else (rc &&& (65535 : Int32)))))), rs)
  else
    ((upd rg (ix ra) (if (26 : Int32) ≤ p0 then (if (28 : Int32) ≤ p0 then ((rg (ix rd)) &&& (if (p0 &&& (1 : Int32)) = (1 : Int32) then (shl (rc &&& (65535 : Int32)) (16 : Int32)) else (rc &&& (65535 : Int32)))) else ((rg (ix rd)) ^^^ (if (p0 &&& (1 : Int32)) = (1 : Int32) then (shl (rc &&& (65535 : Int32)) (16 : Int32)) else (rc &&& (65535 : Int32))))) else ((rg (ix rd)) ||| (if (p0 &&& (1 : Int32)) = (1 : Int32) then (shl (rc &&& (65535 : Int32)) (16 : Int32)) else (rc &&& (65535 : Int32)))))), (f_Ref_noteResult ((upd rg (ix ra) (if (26 : Int32) ≤ p0 then (if (28 : Int32) ≤ p0 then ((rg (ix rd)) &&& (if (p0 &&& (1 : Int32)) = (1 : Int32) then (shl (rc &&& (65535 : Int32)) (16 : Int32)) else (rc &&& (65535 : Int32)))) else ((rg (ix rd)) ^^^ (if (p0 &&& (1 : Int32)) = (1 : Int32) then (shl (rc &&& (65535 : Int32)) (16 : Int32)) else (rc &&& (65535 : Int32))))) else ((rg (ix rd)) ||| (if (p0 &&& (1 : Int32)) = (1 : Int32) then (shl (rc &&& (65535 : Int32)) (16 : Int32)) else (rc &&& (65535 : Int32)))))) (ix ra)) rs))
set_option maxHeartbeats 4000000 in
set_option maxRecDepth 100000 in
theorem c_Ref_logical (l : Launch) (D : va_G) (aT bG bS bM : Nat) (dG dS dM : ClassId) (rg : Nat → Int32) (rs : Nat → Int32) (rm : Nat → Int32) (rl : Int32) (rk : Int32) (rr : Int32) (re : Int32) (rc : Int32) (rd : Int32) (ra : Int32) (rb : Int32) (rn : Int32) (rf : Int32) (rw : Int32) (p0 : Int32) (hra : vp_in ra 32) (hrd : vp_in rd 32) : kMv l y_Ref_logical b_Ref_logical 5 none 3 70 D kCl [(dG, .int), (dS, .int), (dM, .int)] [.ref aT, .int p0] [(aT, .inr (11, [.ref bG, .ref bS, .ref bM, .int rl, .int rk, .int rr, .int re, .int rc, .int rd, .int ra, .int rb, .int rn, .int rf, .int rw])), (bG, .inl (dG, 32, .inl rg)), (bS, .inl (dS, 48, .inl rs)), (bM, .inl (dM, 16384, .inl rm))] [(aT, .inr (11, [.ref bG, .ref bS, .ref bM, .int rl, .int rk, .int rr, .int re, .int rc, .int rd, .int ra, .int rb, .int rn, .int rf, .int rw])), (bG, .inl (dG, 32, .inl (f_Ref_logical p0 rg rs rc rd ra).1)), (bS, .inl (dS, 48, .inl (f_Ref_logical p0 rg rs rc rd ra).2)), (bM, .inl (dM, 16384, .inl rm))] := by
  refine k_entry (Qc := fun A => kQv D kCl [(dG, .int), (dS, .int), (dM, .int)] [(aT, .inr (11, [.ref bG, .ref bS, .ref bM, .int rl, .int rk, .int rr, .int re, .int rc, .int rd, .int ra, .int rb, .int rn, .int rf, .int rw])), (bG, .inl (dG, 32, .inl (f_Ref_logical p0 rg rs rc rd ra).1)), (bS, .inl (dS, 48, .inl (f_Ref_logical p0 rg rs rc rd ra).2)), (bM, .inl (dM, 16384, .inl rm))] A) (lv := [(0, .ref aT), (1, .int p0)]) (by decide) (Nat.le_of_ble_eq_true rfl) rfl ?_
  intro p e s m below meth c A ls hx hb hr hml hB hown hlocks hin hA hK hN hP hD hS hl
  have hown : s.vm.findClass "MappedProcessorModel" = some m.cls := hown
  refine lv_aload_n hx hb d_Ref_logical_0 rfl (lv_at hl 0 rfl) ?_
  refine va_get (D := D) (ci := 11) (v := .int rc) (C := "MappedProcessorModel") (T := T_Ref) (N := 14) hx hb hB iw_Ref hown hK hP 0 rfl rfl 7 (by decide) (hB _ mw_650) (fun _ h9 => h9) rfl d_Ref_logical_1 ?_
  refine lv_ldc (v := (65535 : Int32)) hx hb hown (hB _ mw_737) d_Ref_logical_4 ?_
  refine lv_iand hx hb d_Ref_logical_6 ?_
  refine lv_istore_n (lv' := [(2, .int (rc &&& (65535 : Int32))), (0, .ref aT), (1, .int p0)]) hx hb d_Ref_logical_7 rfl hl (by decide) rfl (fun ls hl => ?_)
  refine lv_iload_n hx hb d_Ref_logical_8 rfl (lv_at hl 2 rfl) ?_
  refine lv_iconst (v := (1 : Int32)) hx hb d_Ref_logical_9 (by decide) ?_
  refine lv_iand hx hb d_Ref_logical_10 ?_
  refine lv_iconst (v := (1 : Int32)) hx hb d_Ref_logical_11 (by decide) ?_
  refine k_join2 (c0 := (p0 &&& (1 : Int32)) = (1 : Int32)) (x1 := (shl (rc &&& (65535 : Int32)) (16 : Int32))) (x2 := (rc &&& (65535 : Int32))) (rest := []) 23 ?_ (fun k2 k3 => ?_)
  rotate_left
  · refine lv_icmp_ne (tgt := 22) hx hb d_Ref_logical_12 (by decide) (fun (h1 : ¬ (p0 &&& (1 : Int32)) = (1 : Int32)) => ?_) (fun (h1 : (p0 &&& (1 : Int32)) = (1 : Int32)) => ?_)
    · refine lv_iload_n hx hb d_Ref_logical_22 rfl (lv_at hl 0 rfl) ?_
      exact k3 h1
    · refine lv_iload_n hx hb d_Ref_logical_15 rfl (lv_at hl 0 rfl) ?_
      refine lv_bipush (v := (16 : Int32)) hx hb d_Ref_logical_16 (by decide) ?_
      refine lv_ishl hx hb d_Ref_logical_18 ?_
      refine lv_goto (tgt := 23) hx hb d_Ref_logical_19 (by decide) ?_
      exact k2 h1
  refine lv_istore_n (lv' := [(3, .int (if (p0 &&& (1 : Int32)) = (1 : Int32) then (shl (rc &&& (65535 : Int32)) (16 : Int32)) else (rc &&& (65535 : Int32)))), (2, .int (rc &&& (65535 : Int32))), (0, .ref aT), (1, .int p0)]) hx hb d_Ref_logical_23 rfl hl (by decide) rfl (fun ls hl => ?_)
  refine lv_aload_n hx hb d_Ref_logical_24 rfl (lv_at hl 2 rfl) ?_
  refine va_get (D := D) (ci := 11) (v := .ref bG) (C := "MappedProcessorModel") (T := T_Ref) (N := 14) hx hb hB iw_Ref hown hK hP 0 rfl rfl 0 (by decide) (hB _ mw_643) (fun _ h9 => h9) rfl d_Ref_logical_25 ?_
  refine lv_aload_n hx hb d_Ref_logical_28 rfl (lv_at hl 2 rfl) ?_
  refine va_get (D := D) (ci := 11) (v := .int rd) (C := "MappedProcessorModel") (T := T_Ref) (N := 14) hx hb hB iw_Ref hown hK hP 0 rfl rfl 8 (by decide) (hB _ mw_651) (fun _ h9 => h9) rfl d_Ref_logical_29 ?_
  refine k_iald (j := (ix rd)) hx hb hK hP 1 0 rfl rfl rfl hrd d_Ref_logical_32 ?_
  refine lv_istore (lv' := [(4, .int (rg (ix rd))), (3, .int (if (p0 &&& (1 : Int32)) = (1 : Int32) then (shl (rc &&& (65535 : Int32)) (16 : Int32)) else (rc &&& (65535 : Int32)))), (2, .int (rc &&& (65535 : Int32))), (0, .ref aT), (1, .int p0)]) hx hb d_Ref_logical_33 hl (by decide) rfl (fun ls hl => ?_)
  refine lv_aload_n hx hb d_Ref_logical_35 rfl (lv_at hl 3 rfl) ?_
  refine va_get (D := D) (ci := 11) (v := .ref bG) (C := "MappedProcessorModel") (T := T_Ref) (N := 14) hx hb hB iw_Ref hown hK hP 0 rfl rfl 0 (by decide) (hB _ mw_643) (fun _ h9 => h9) rfl d_Ref_logical_36 ?_
  refine lv_aload_n hx hb d_Ref_logical_39 rfl (lv_at hl 3 rfl) ?_
  refine va_get (D := D) (ci := 11) (v := .int ra) (C := "MappedProcessorModel") (T := T_Ref) (N := 14) hx hb hB iw_Ref hown hK hP 0 rfl rfl 9 (by decide) (hB _ mw_652) (fun _ h9 => h9) rfl d_Ref_logical_40 ?_
  refine lv_iload_n hx hb d_Ref_logical_43 rfl (lv_at hl 4 rfl) ?_
  refine lv_bipush (v := (26 : Int32)) hx hb d_Ref_logical_44 (by decide) ?_
  refine k_join2 (c0 := (26 : Int32) ≤ p0) (x1 := (if (28 : Int32) ≤ p0 then ((rg (ix rd)) &&& (if (p0 &&& (1 : Int32)) = (1 : Int32) then (shl (rc &&& (65535 : Int32)) (16 : Int32)) else (rc &&& (65535 : Int32)))) else ((rg (ix rd)) ^^^ (if (p0 &&& (1 : Int32)) = (1 : Int32) then (shl (rc &&& (65535 : Int32)) (16 : Int32)) else (rc &&& (65535 : Int32)))))) (x2 := ((rg (ix rd)) ||| (if (p0 &&& (1 : Int32)) = (1 : Int32) then (shl (rc &&& (65535 : Int32)) (16 : Int32)) else (rc &&& (65535 : Int32))))) (rest := [.int ra, .ref bG]) 73 ?_ (fun k7 k8 => ?_)
  rotate_left
  · refine lv_icmp_ge (tgt := 56) hx hb d_Ref_logical_46 (by decide) (fun (h6 : (26 : Int32) ≤ p0) => ?_) (fun (h6 : ¬ (26 : Int32) ≤ p0) => ?_)
    · refine lv_iload_n hx hb d_Ref_logical_56 rfl (lv_at hl 4 rfl) ?_
      refine lv_bipush (v := (28 : Int32)) hx hb d_Ref_logical_57 (by decide) ?_
      refine k_join2 (c0 := (28 : Int32) ≤ p0) (x1 := ((rg (ix rd)) &&& (if (p0 &&& (1 : Int32)) = (1 : Int32) then (shl (rc &&& (65535 : Int32)) (16 : Int32)) else (rc &&& (65535 : Int32))))) (x2 := ((rg (ix rd)) ^^^ (if (p0 &&& (1 : Int32)) = (1 : Int32) then (shl (rc &&& (65535 : Int32)) (16 : Int32)) else (rc &&& (65535 : Int32))))) (rest := [.int ra, .ref bG]) 73 ?_ (fun k10 k11 => ?_)
      rotate_left
      · refine lv_icmp_ge (tgt := 69) hx hb d_Ref_logical_59 (by decide) (fun (h9 : (28 : Int32) ≤ p0) => ?_) (fun (h9 : ¬ (28 : Int32) ≤ p0) => ?_)
        · refine lv_iload hx hb d_Ref_logical_69 (lv_at hl 0 rfl) ?_
          refine lv_iload_n hx hb d_Ref_logical_71 rfl (lv_at hl 1 rfl) ?_
          refine lv_iand hx hb d_Ref_logical_72 ?_
          exact k10 h9
        · refine lv_iload hx hb d_Ref_logical_62 (lv_at hl 0 rfl) ?_
          refine lv_iload_n hx hb d_Ref_logical_64 rfl (lv_at hl 1 rfl) ?_
          refine lv_ixor hx hb d_Ref_logical_65 ?_
          refine lv_goto (tgt := 73) hx hb d_Ref_logical_66 (by decide) ?_
          exact k11 h9
      exact k7 h6
    · refine lv_iload hx hb d_Ref_logical_49 (lv_at hl 0 rfl) ?_
      refine lv_iload_n hx hb d_Ref_logical_51 rfl (lv_at hl 1 rfl) ?_
      refine lv_ior hx hb d_Ref_logical_52 ?_
      refine lv_goto (tgt := 73) hx hb d_Ref_logical_53 (by decide) ?_
      exact k8 h6
  refine k_iast (j := (ix ra)) hx hb hK hP hD hS 1 0 rfl rfl rfl hra d_Ref_logical_73 (fun H locs hP hD hS => ?_)
  have hP : va_P D kCl [(aT, .inr (11, [.ref bG, .ref bS, .ref bM, .int rl, .int rk, .int rr, .int re, .int rc, .int rd, .int ra, .int rb, .int rn, .int rf, .int rw])), (bG, .inl (dG, 32, .inl (upd rg (ix ra) (if (26 : Int32) ≤ p0 then (if (28 : Int32) ≤ p0 then ((rg (ix rd)) &&& (if (p0 &&& (1 : Int32)) = (1 : Int32) then (shl (rc &&& (65535 : Int32)) (16 : Int32)) else (rc &&& (65535 : Int32)))) else ((rg (ix rd)) ^^^ (if (p0 &&& (1 : Int32)) = (1 : Int32) then (shl (rc &&& (65535 : Int32)) (16 : Int32)) else (rc &&& (65535 : Int32))))) else ((rg (ix rd)) ||| (if (p0 &&& (1 : Int32)) = (1 : Int32) then (shl (rc &&& (65535 : Int32)) (16 : Int32)) else (rc &&& (65535 : Int32)))))))), (bS, .inl (dS, 48, .inl rs)), (bM, .inl (dM, 16384, .inl rm))] H := hP
  have hD : va_D A [(aT, .inr (11, [.ref bG, .ref bS, .ref bM, .int rl, .int rk, .int rr, .int re, .int rc, .int rd, .int ra, .int rb, .int rn, .int rf, .int rw])), (bG, .inl (dG, 32, .inl (upd rg (ix ra) (if (26 : Int32) ≤ p0 then (if (28 : Int32) ≤ p0 then ((rg (ix rd)) &&& (if (p0 &&& (1 : Int32)) = (1 : Int32) then (shl (rc &&& (65535 : Int32)) (16 : Int32)) else (rc &&& (65535 : Int32)))) else ((rg (ix rd)) ^^^ (if (p0 &&& (1 : Int32)) = (1 : Int32) then (shl (rc &&& (65535 : Int32)) (16 : Int32)) else (rc &&& (65535 : Int32))))) else ((rg (ix rd)) ||| (if (p0 &&& (1 : Int32)) = (1 : Int32) then (shl (rc &&& (65535 : Int32)) (16 : Int32)) else (rc &&& (65535 : Int32)))))))), (bS, .inl (dS, 48, .inl rs)), (bM, .inl (dM, 16384, .inl rm))] := hD
  refine lv_iload_n hx hb d_Ref_logical_74 rfl (lv_at hl 4 rfl) ?_
  refine lv_bipush (v := (27 : Int32)) hx hb d_Ref_logical_75 (by decide) ?_
  refine lv_icmp_le (tgt := 93) hx hb d_Ref_logical_77 (by decide) (fun (h19 : p0 ≤ (27 : Int32)) => ?_) (fun (h19 : ¬ p0 ≤ (27 : Int32)) => ?_)
  · have ef : f_Ref_logical p0 rg rs rc rd ra = ((upd rg (ix ra) (if (26 : Int32) ≤ p0 then (if (28 : Int32) ≤ p0 then ((rg (ix rd)) &&& (if (p0 &&& (1 : Int32)) = (1 : Int32) then (shl (rc &&& (65535 : Int32)) (16 : Int32)) else (rc &&& (65535 : Int32)))) else ((rg (ix rd)) ^^^ (if (p0 &&& (1 : Int32)) = (1 : Int32) then (shl (rc &&& (65535 : Int32)) (16 : Int32)) else (rc &&& (65535 : Int32))))) else ((rg (ix rd)) ||| (if (p0 &&& (1 : Int32)) = (1 : Int32) then (shl (rc &&& (65535 : Int32)) (16 : Int32)) else (rc &&& (65535 : Int32)))))), rs) := by unfold f_Ref_logical; rw [if_pos h19]
    exact k_vret hx hb hr hlocks hK hP hD hS [0, 1, 2, 3] rfl (by rw [ef] <;> rfl) d_Ref_logical_93
  · refine lv_aload_n hx hb d_Ref_logical_80 rfl (lv_at hl 3 rfl) ?_
    refine lv_aload_n hx hb d_Ref_logical_81 rfl (lv_at hl 3 rfl) ?_
    refine va_get (D := D) (ci := 11) (v := .ref bG) (C := "MappedProcessorModel") (T := T_Ref) (N := 14) hx hb hB iw_Ref hown hK hP 0 rfl rfl 0 (by decide) (hB _ mw_643) (fun _ h9 => h9) rfl d_Ref_logical_82 ?_
    refine lv_aload_n hx hb d_Ref_logical_85 rfl (lv_at hl 3 rfl) ?_
    refine va_get (D := D) (ci := 11) (v := .int ra) (C := "MappedProcessorModel") (T := T_Ref) (N := 14) hx hb hB iw_Ref hown hK hP 0 rfl rfl 9 (by decide) (hB _ mw_652) (fun _ h9 => h9) rfl d_Ref_logical_86 ?_
    refine k_iald (j := (ix ra)) hx hb hK hP 1 0 rfl rfl rfl hra d_Ref_logical_89 ?_
    refine k_cVv (As := [.int ((upd rg (ix ra) (if (26 : Int32) ≤ p0 then (if (28 : Int32) ≤ p0 then ((rg (ix rd)) &&& (if (p0 &&& (1 : Int32)) = (1 : Int32) then (shl (rc &&& (65535 : Int32)) (16 : Int32)) else (rc &&& (65535 : Int32)))) else ((rg (ix rd)) ^^^ (if (p0 &&& (1 : Int32)) = (1 : Int32) then (shl (rc &&& (65535 : Int32)) (16 : Int32)) else (rc &&& (65535 : Int32))))) else ((rg (ix rd)) ||| (if (p0 &&& (1 : Int32)) = (1 : Int32) then (shl (rc &&& (65535 : Int32)) (16 : Int32)) else (rc &&& (65535 : Int32)))))) (ix ra))]) (rest := []) (wr := []) (wj := [(aT, .inr (11, [.ref bG, .ref bS, .ref bM, .int rl, .int rk, .int rr, .int re, .int rc, .int rd, .int ra, .int rb, .int rn, .int rf, .int rw])), (bG, .inl (dG, 32, .inl (upd rg (ix ra) (if (26 : Int32) ≤ p0 then (if (28 : Int32) ≤ p0 then ((rg (ix rd)) &&& (if (p0 &&& (1 : Int32)) = (1 : Int32) then (shl (rc &&& (65535 : Int32)) (16 : Int32)) else (rc &&& (65535 : Int32)))) else ((rg (ix rd)) ^^^ (if (p0 &&& (1 : Int32)) = (1 : Int32) then (shl (rc &&& (65535 : Int32)) (16 : Int32)) else (rc &&& (65535 : Int32))))) else ((rg (ix rd)) ||| (if (p0 &&& (1 : Int32)) = (1 : Int32) then (shl (rc &&& (65535 : Int32)) (16 : Int32)) else (rc &&& (65535 : Int32)))))))), (bS, .inl (dS, 48, .inl (f_Ref_noteResult ((upd rg (ix ra) (if (26 : Int32) ≤ p0 then (if (28 : Int32) ≤ p0 then ((rg (ix rd)) &&& (if (p0 &&& (1 : Int32)) = (1 : Int32) then (shl (rc &&& (65535 : Int32)) (16 : Int32)) else (rc &&& (65535 : Int32)))) else ((rg (ix rd)) ^^^ (if (p0 &&& (1 : Int32)) = (1 : Int32) then (shl (rc &&& (65535 : Int32)) (16 : Int32)) else (rc &&& (65535 : Int32))))) else ((rg (ix rd)) ||| (if (p0 &&& (1 : Int32)) = (1 : Int32) then (shl (rc &&& (65535 : Int32)) (16 : Int32)) else (rc &&& (65535 : Int32)))))) (ix ra)) rs))), (bM, .inl (dM, 16384, .inl rm))]) ⟨hx, hb, hml, hown, hB⟩ (c_Ref_noteResult l D aT bG bS bM dG dS dM (upd rg (ix ra) (if (26 : Int32) ≤ p0 then (if (28 : Int32) ≤ p0 then ((rg (ix rd)) &&& (if (p0 &&& (1 : Int32)) = (1 : Int32) then (shl (rc &&& (65535 : Int32)) (16 : Int32)) else (rc &&& (65535 : Int32)))) else ((rg (ix rd)) ^^^ (if (p0 &&& (1 : Int32)) = (1 : Int32) then (shl (rc &&& (65535 : Int32)) (16 : Int32)) else (rc &&& (65535 : Int32))))) else ((rg (ix rd)) ||| (if (p0 &&& (1 : Int32)) = (1 : Int32) then (shl (rc &&& (65535 : Int32)) (16 : Int32)) else (rc &&& (65535 : Int32)))))) rs rm rl rk rr re rc rd ra rb rn rf rw ((upd rg (ix ra) (if (26 : Int32) ≤ p0 then (if (28 : Int32) ≤ p0 then ((rg (ix rd)) &&& (if (p0 &&& (1 : Int32)) = (1 : Int32) then (shl (rc &&& (65535 : Int32)) (16 : Int32)) else (rc &&& (65535 : Int32)))) else ((rg (ix rd)) ^^^ (if (p0 &&& (1 : Int32)) = (1 : Int32) then (shl (rc &&& (65535 : Int32)) (16 : Int32)) else (rc &&& (65535 : Int32))))) else ((rg (ix rd)) ||| (if (p0 &&& (1 : Int32)) = (1 : Int32) then (shl (rc &&& (65535 : Int32)) (16 : Int32)) else (rc &&& (65535 : Int32)))))) (ix ra))) yl_Ref_noteResult mw_797 hK hN hP hD hS hA [0, 1, 2] [0, 1, 2, 3] [] [0, 1, 2, 3] rfl rfl rfl rfl (by decide +kernel) 0 rfl rfl rfl rfl hl.1 rfl (Nat.le_of_ble_eq_true rfl) ⟨Nat.le_of_ble_eq_true rfl, Nat.le_of_ble_eq_true rfl⟩ d_Ref_logical_90 ⟨Nat.le_of_ble_eq_true rfl, Nat.le_of_ble_eq_true rfl⟩ (fun H locs hP hD hS => ?_)
    have ef : f_Ref_logical p0 rg rs rc rd ra = ((upd rg (ix ra) (if (26 : Int32) ≤ p0 then (if (28 : Int32) ≤ p0 then ((rg (ix rd)) &&& (if (p0 &&& (1 : Int32)) = (1 : Int32) then (shl (rc &&& (65535 : Int32)) (16 : Int32)) else (rc &&& (65535 : Int32)))) else ((rg (ix rd)) ^^^ (if (p0 &&& (1 : Int32)) = (1 : Int32) then (shl (rc &&& (65535 : Int32)) (16 : Int32)) else (rc &&& (65535 : Int32))))) else ((rg (ix rd)) ||| (if (p0 &&& (1 : Int32)) = (1 : Int32) then (shl (rc &&& (65535 : Int32)) (16 : Int32)) else (rc &&& (65535 : Int32)))))), (f_Ref_noteResult ((upd rg (ix ra) (if (26 : Int32) ≤ p0 then (if (28 : Int32) ≤ p0 then ((rg (ix rd)) &&& (if (p0 &&& (1 : Int32)) = (1 : Int32) then (shl (rc &&& (65535 : Int32)) (16 : Int32)) else (rc &&& (65535 : Int32)))) else ((rg (ix rd)) ^^^ (if (p0 &&& (1 : Int32)) = (1 : Int32) then (shl (rc &&& (65535 : Int32)) (16 : Int32)) else (rc &&& (65535 : Int32))))) else ((rg (ix rd)) ||| (if (p0 &&& (1 : Int32)) = (1 : Int32) then (shl (rc &&& (65535 : Int32)) (16 : Int32)) else (rc &&& (65535 : Int32)))))) (ix ra)) rs)) := by unfold f_Ref_logical; rw [if_neg h19]
    exact k_vret hx hb hr hlocks hK hP hD hS [0, 1, 2, 3] rfl (by rw [ef] <;> rfl) d_Ref_logical_93
