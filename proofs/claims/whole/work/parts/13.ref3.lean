/-! MappedProcessorModel.reach(III)Z -/
theorem d_Ref_reach_0 : decode b_Ref_reach 0 = .ok (.iload_n 1, 1) := by decide +kernel
theorem d_Ref_reach_1 : decode b_Ref_reach 1 = .ok (.iload_n 2, 1) := by decide +kernel
theorem d_Ref_reach_2 : decode b_Ref_reach 2 = .ok (.iconst 1, 1) := by decide +kernel
theorem d_Ref_reach_3 : decode b_Ref_reach 3 = .ok (.isub, 1) := by decide +kernel
theorem d_Ref_reach_4 : decode b_Ref_reach 4 = .ok (.iand, 1) := by decide +kernel
theorem d_Ref_reach_5 : decode b_Ref_reach 5 = .ok (.ifCond .eq 21, 3) := by decide +kernel
theorem d_Ref_reach_8 : decode b_Ref_reach 8 = .ok (.aload_n 0, 1) := by decide +kernel
theorem d_Ref_reach_9 : decode b_Ref_reach 9 = .ok (.getfield 13, 3) := by decide +kernel
theorem d_Ref_reach_12 : decode b_Ref_reach 12 = .ok (.bipush 9, 2) := by decide +kernel
theorem d_Ref_reach_14 : decode b_Ref_reach 14 = .ok (.iload_n 1, 1) := by decide +kernel
theorem d_Ref_reach_15 : decode b_Ref_reach 15 = .ok (.iastore, 1) := by decide +kernel
theorem d_Ref_reach_16 : decode b_Ref_reach 16 = .ok (.aload_n 0, 1) := by decide +kernel
theorem d_Ref_reach_17 : decode b_Ref_reach 17 = .ok (.sipush 1536, 3) := by decide +kernel
theorem d_Ref_reach_20 : decode b_Ref_reach 20 = .ok (.iconst 0, 1) := by decide +kernel
theorem d_Ref_reach_21 : decode b_Ref_reach 21 = .ok (.invokevirtual 61, 3) := by decide +kernel
theorem d_Ref_reach_24 : decode b_Ref_reach 24 = .ok (.iconst 0, 1) := by decide +kernel
theorem d_Ref_reach_25 : decode b_Ref_reach 25 = .ok (.ireturn, 1) := by decide +kernel
theorem d_Ref_reach_26 : decode b_Ref_reach 26 = .ok (.aload_n 0, 1) := by decide +kernel
theorem d_Ref_reach_27 : decode b_Ref_reach 27 = .ok (.iload_n 1, 1) := by decide +kernel
theorem d_Ref_reach_28 : decode b_Ref_reach 28 = .ok (.iload_n 3, 1) := by decide +kernel
theorem d_Ref_reach_29 : decode b_Ref_reach 29 = .ok (.invokevirtual 69, 3) := by decide +kernel
theorem d_Ref_reach_32 : decode b_Ref_reach 32 = .ok (.istore 4, 2) := by decide +kernel
theorem d_Ref_reach_34 : decode b_Ref_reach 34 = .ok (.aload_n 0, 1) := by decide +kernel
theorem d_Ref_reach_35 : decode b_Ref_reach 35 = .ok (.getfield 21, 3) := by decide +kernel
theorem d_Ref_reach_38 : decode b_Ref_reach 38 = .ok (.ifCond .eq 55, 3) := by decide +kernel
theorem d_Ref_reach_41 : decode b_Ref_reach 41 = .ok (.aload_n 0, 1) := by decide +kernel
theorem d_Ref_reach_42 : decode b_Ref_reach 42 = .ok (.getfield 13, 3) := by decide +kernel
theorem d_Ref_reach_45 : decode b_Ref_reach 45 = .ok (.bipush 9, 2) := by decide +kernel
theorem d_Ref_reach_47 : decode b_Ref_reach 47 = .ok (.iload_n 1, 1) := by decide +kernel
theorem d_Ref_reach_48 : decode b_Ref_reach 48 = .ok (.iastore, 1) := by decide +kernel
theorem d_Ref_reach_49 : decode b_Ref_reach 49 = .ok (.aload_n 0, 1) := by decide +kernel
theorem d_Ref_reach_50 : decode b_Ref_reach 50 = .ok (.getfield 13, 3) := by decide +kernel
theorem d_Ref_reach_53 : decode b_Ref_reach 53 = .ok (.bipush 8, 2) := by decide +kernel
theorem d_Ref_reach_55 : decode b_Ref_reach 55 = .ok (.aload_n 0, 1) := by decide +kernel
theorem d_Ref_reach_56 : decode b_Ref_reach 56 = .ok (.getfield 21, 3) := by decide +kernel
theorem d_Ref_reach_59 : decode b_Ref_reach 59 = .ok (.iconst (-1), 1) := by decide +kernel
theorem d_Ref_reach_60 : decode b_Ref_reach 60 = .ok (.if_icmp .ne 8, 3) := by decide +kernel
theorem d_Ref_reach_63 : decode b_Ref_reach 63 = .ok (.ldc 72, 2) := by decide +kernel
theorem d_Ref_reach_65 : decode b_Ref_reach 65 = .ok (.goto 5, 3) := by decide +kernel
theorem d_Ref_reach_68 : decode b_Ref_reach 68 = .ok (.ldc 73, 2) := by decide +kernel
theorem d_Ref_reach_70 : decode b_Ref_reach 70 = .ok (.iload_n 3, 1) := by decide +kernel
theorem d_Ref_reach_71 : decode b_Ref_reach 71 = .ok (.iconst 2, 1) := by decide +kernel
theorem d_Ref_reach_72 : decode b_Ref_reach 72 = .ok (.if_icmp .ne 8, 3) := by decide +kernel
theorem d_Ref_reach_75 : decode b_Ref_reach 75 = .ok (.ldc 213, 2) := by decide +kernel
theorem d_Ref_reach_77 : decode b_Ref_reach 77 = .ok (.goto 4, 3) := by decide +kernel
theorem d_Ref_reach_80 : decode b_Ref_reach 80 = .ok (.iconst 0, 1) := by decide +kernel
theorem d_Ref_reach_81 : decode b_Ref_reach 81 = .ok (.iadd, 1) := by decide +kernel
theorem d_Ref_reach_82 : decode b_Ref_reach 82 = .ok (.iastore, 1) := by decide +kernel
theorem d_Ref_reach_83 : decode b_Ref_reach 83 = .ok (.aload_n 0, 1) := by decide +kernel
theorem d_Ref_reach_84 : decode b_Ref_reach 84 = .ok (.sipush 768, 3) := by decide +kernel
theorem d_Ref_reach_87 : decode b_Ref_reach 87 = .ok (.iconst 0, 1) := by decide +kernel
theorem d_Ref_reach_88 : decode b_Ref_reach 88 = .ok (.invokevirtual 61, 3) := by decide +kernel
theorem d_Ref_reach_91 : decode b_Ref_reach 91 = .ok (.iconst 0, 1) := by decide +kernel
theorem d_Ref_reach_92 : decode b_Ref_reach 92 = .ok (.ireturn, 1) := by decide +kernel
theorem d_Ref_reach_93 : decode b_Ref_reach 93 = .ok (.aload_n 0, 1) := by decide +kernel
theorem d_Ref_reach_94 : decode b_Ref_reach 94 = .ok (.iload_n 3, 1) := by decide +kernel
theorem d_Ref_reach_95 : decode b_Ref_reach 95 = .ok (.invokevirtual 75, 3) := by decide +kernel
theorem d_Ref_reach_98 : decode b_Ref_reach 98 = .ok (.aload_n 0, 1) := by decide +kernel
theorem d_Ref_reach_99 : decode b_Ref_reach 99 = .ok (.iload 4, 2) := by decide +kernel
theorem d_Ref_reach_101 : decode b_Ref_reach 101 = .ok (.ldc 42, 2) := by decide +kernel
theorem d_Ref_reach_103 : decode b_Ref_reach 103 = .ok (.iand, 1) := by decide +kernel
theorem d_Ref_reach_104 : decode b_Ref_reach 104 = .ok (.putfield 214, 3) := by decide +kernel
theorem d_Ref_reach_107 : decode b_Ref_reach 107 = .ok (.iconst 1, 1) := by decide +kernel
theorem d_Ref_reach_108 : decode b_Ref_reach 108 = .ok (.ireturn, 1) := by decide +kernel
def f_Ref_reach (p0 : Int32) (p1 : Int32) (p2 : Int32) (rs : Nat → Int32) (rm : Nat → Int32) (rl : Int32) (rr : Int32) (re : Int32) (rn : Int32) (rf : Int32) (rw : Int32) : Int32 × (Nat → Int32) × (Nat → Int32) × Int32 × Int32 × Int32 × Int32 × Int32 × Int32 :=
  if (p0 &&& (p1 - (1 : Int32))) = (0 : Int32) then
    let t2 := (f_Ref_resolve p0 p2 rs rm)
    if t2.2.1 = (0 : Int32) then
      ((1 : Int32), rs, (f_Ref_touch p2 rm t2.2.2), rl, t2.2.1, t2.2.2, rn, rf, (t2.1 &&& (65535 : Int32)))
    else
      let t14 := (f_Ref_exception (768 : Int32) (0 : Int32) (upd (upd rs 9 p0) 8 ((if t2.2.1 = (-1 : Int32) then (1073741824 : Int32) else (134217728 : Int32)) + (if p2 = (2 : Int32) then (33554432 : Int32) else (0 : Int32)))))
      ((0 : Int32), t14.1, rm, t14.2.1, t2.2.1, t2.2.2, t14.2.2.1, t14.2.2.2, rw)
  else
    let t15 := (f_Ref_exception (1536 : Int32) (0 : Int32) (upd rs 9 p0))
    ((0 : Int32), t15.1, rm, t15.2.1, rr, re, t15.2.2.1, t15.2.2.2, rw)
set_option maxHeartbeats 4000000 in
set_option maxRecDepth 100000 in
theorem ib_Ref_reach (p0 : Int32) (p1 : Int32) (p2 : Int32) (rs : Nat → Int32) (rm : Nat → Int32) (rl : Int32) (rr : Int32) (re : Int32) (rn : Int32) (rf : Int32) (rw : Int32) : isB (f_Ref_reach p0 p1 p2 rs rm rl rr re rn rf rw).1 := by
  unfold f_Ref_reach
  try dsimp only
  repeat' (first | refine ib_ite ?_ ?_ | refine ib_ite0 ?_ ?_ | with_reducible exact ib0 | with_reducible exact ib1 | (dsimp only; first | exact ib0 | exact ib1))
theorem nb_Ref_reach (p0 : Int32) (p1 : Int32) (p2 : Int32) (rs : Nat → Int32) (rm : Nat → Int32) (rl : Int32) (rr : Int32) (re : Int32) (rn : Int32) (rf : Int32) (rw : Int32) : narrow .boolean (.int (f_Ref_reach p0 p1 p2 rs rm rl rr re rn rf rw).1) = .int (f_Ref_reach p0 p1 p2 rs rm rl rr re rn rf rw).1 := nb_of (ib_Ref_reach p0 p1 p2 rs rm rl rr re rn rf rw)
def rq_Ref_reach (z : Int32 × (Nat → Int32) × (Nat → Int32) × Int32 × Int32 × Int32 × Int32 × Int32 × Int32) : Prop := isB z.2.2.2.2.2.2.2.1
set_option maxHeartbeats 4000000 in
set_option maxRecDepth 100000 in
theorem rq0_Ref_reach (p0 : Int32) (p1 : Int32) (p2 : Int32) (rs : Nat → Int32) (rm : Nat → Int32) (rl : Int32) (rr : Int32) (re : Int32) (rn : Int32) (rf : Int32) (rw : Int32) (h : isB rf) : rq_Ref_reach (f_Ref_reach p0 p1 p2 rs rm rl rr re rn rf rw) := by
  unfold f_Ref_reach
  try dsimp only
  repeat' (with_reducible refine pred_ite ?_ ?_)
  all_goals (unfold rq_Ref_reach)
  all_goals (try dsimp only)
  all_goals first | with_reducible exact h | with_reducible exact ib0 | with_reducible exact ib1 | with_reducible exact rb_Ref_exception _ _ _
theorem rb_Ref_reach (p0 : Int32) (p1 : Int32) (p2 : Int32) (rs : Nat → Int32) (rm : Nat → Int32) (rl : Int32) (rr : Int32) (re : Int32) (rn : Int32) (rf : Int32) (rw : Int32) (h : isB rf) : isB (f_Ref_reach p0 p1 p2 rs rm rl rr re rn rf rw).2.2.2.2.2.2.2.1 := rq0_Ref_reach p0 p1 p2 rs rm rl rr re rn rf rw h
set_option maxHeartbeats 4000000 in
set_option maxRecDepth 100000 in
theorem c_Ref_reach (l : Launch) (D : va_G) (aT bG bS bM : Nat) (dG dS dM : ClassId) (rg : Nat → Int32) (rs : Nat → Int32) (rm : Nat → Int32) (rl : Int32) (rk : Int32) (rr : Int32) (re : Int32) (rc : Int32) (rd : Int32) (ra : Int32) (rb : Int32) (rn : Int32) (rf : Int32) (rw : Int32) (p0 : Int32) (p1 : Int32) (p2 : Int32) : kMi l y_Ref_reach b_Ref_reach 5 (some .boolean) 3 82 D kCl [(dG, .int), (dS, .int), (dM, .int)] [.ref aT, .int p0, .int p1, .int p2] [(aT, .inr (11, [.ref bG, .ref bS, .ref bM, .int rl, .int rk, .int rr, .int re, .int rc, .int rd, .int ra, .int rb, .int rn, .int rf, .int rw])), (bG, .inl (dG, 32, .inl rg)), (bS, .inl (dS, 48, .inl rs)), (bM, .inl (dM, 16384, .inl rm))] (f_Ref_reach p0 p1 p2 rs rm rl rr re rn rf rw).1 [(aT, .inr (11, [.ref bG, .ref bS, .ref bM, .int (f_Ref_reach p0 p1 p2 rs rm rl rr re rn rf rw).2.2.2.1, .int rk, .int (f_Ref_reach p0 p1 p2 rs rm rl rr re rn rf rw).2.2.2.2.1, .int (f_Ref_reach p0 p1 p2 rs rm rl rr re rn rf rw).2.2.2.2.2.1, .int rc, .int rd, .int ra, .int rb, .int (f_Ref_reach p0 p1 p2 rs rm rl rr re rn rf rw).2.2.2.2.2.2.1, .int (f_Ref_reach p0 p1 p2 rs rm rl rr re rn rf rw).2.2.2.2.2.2.2.1, .int (f_Ref_reach p0 p1 p2 rs rm rl rr re rn rf rw).2.2.2.2.2.2.2.2])), (bG, .inl (dG, 32, .inl rg)), (bS, .inl (dS, 48, .inl (f_Ref_reach p0 p1 p2 rs rm rl rr re rn rf rw).2.1)), (bM, .inl (dM, 16384, .inl (f_Ref_reach p0 p1 p2 rs rm rl rr re rn rf rw).2.2.1))] := by
  refine k_entry (Qc := fun A => kQi D kCl [(dG, .int), (dS, .int), (dM, .int)] (f_Ref_reach p0 p1 p2 rs rm rl rr re rn rf rw).1 [(aT, .inr (11, [.ref bG, .ref bS, .ref bM, .int (f_Ref_reach p0 p1 p2 rs rm rl rr re rn rf rw).2.2.2.1, .int rk, .int (f_Ref_reach p0 p1 p2 rs rm rl rr re rn rf rw).2.2.2.2.1, .int (f_Ref_reach p0 p1 p2 rs rm rl rr re rn rf rw).2.2.2.2.2.1, .int rc, .int rd, .int ra, .int rb, .int (f_Ref_reach p0 p1 p2 rs rm rl rr re rn rf rw).2.2.2.2.2.2.1, .int (f_Ref_reach p0 p1 p2 rs rm rl rr re rn rf rw).2.2.2.2.2.2.2.1, .int (f_Ref_reach p0 p1 p2 rs rm rl rr re rn rf rw).2.2.2.2.2.2.2.2])), (bG, .inl (dG, 32, .inl rg)), (bS, .inl (dS, 48, .inl (f_Ref_reach p0 p1 p2 rs rm rl rr re rn rf rw).2.1)), (bM, .inl (dM, 16384, .inl (f_Ref_reach p0 p1 p2 rs rm rl rr re rn rf rw).2.2.1))] A) (lv := [(0, .ref aT), (1, .int p0), (2, .int p1), (3, .int p2)]) (by decide) (Nat.le_of_ble_eq_true rfl) rfl ?_
  intro p e s m below meth c A ls hx hb hr hml hB hown hlocks hin hA hK hN hP hD hS hl
  have hown : s.vm.findClass "MappedProcessorModel" = some m.cls := hown
  refine lv_iload_n hx hb d_Ref_reach_0 rfl (lv_at hl 1 rfl) ?_
  refine lv_iload_n hx hb d_Ref_reach_1 rfl (lv_at hl 2 rfl) ?_
  refine lv_iconst (v := (1 : Int32)) hx hb d_Ref_reach_2 (by decide) ?_
  refine lv_isub hx hb d_Ref_reach_3 ?_
  refine lv_iand hx hb d_Ref_reach_4 ?_
  refine lv_if_eq (tgt := 26) hx hb d_Ref_reach_5 (by decide) (fun (h1 : (p0 &&& (p1 - (1 : Int32))) = (0 : Int32)) => ?_) (fun (h1 : ¬ (p0 &&& (p1 - (1 : Int32))) = (0 : Int32)) => ?_)
  · refine lv_aload_n hx hb d_Ref_reach_26 rfl (lv_at hl 0 rfl) ?_
    refine lv_iload_n hx hb d_Ref_reach_27 rfl (lv_at hl 1 rfl) ?_
    refine lv_iload_n hx hb d_Ref_reach_28 rfl (lv_at hl 3 rfl) ?_
    let t2 := (f_Ref_resolve p0 p2 rs rm)
    refine k_cVi (As := [.int p0, .int p2]) (rest := []) (wr := []) (wj := [(aT, .inr (11, [.ref bG, .ref bS, .ref bM, .int rl, .int rk, .int t2.2.1, .int t2.2.2, .int rc, .int rd, .int ra, .int rb, .int rn, .int rf, .int rw])), (bG, .inl (dG, 32, .inl rg)), (bS, .inl (dS, 48, .inl rs)), (bM, .inl (dM, 16384, .inl rm))]) ⟨hx, hb, hml, hown, hB⟩ (c_Ref_resolve l D aT bG bS bM dG dS dM rg rs rm rl rk rr re rc rd ra rb rn rf rw p0 p2) yl_Ref_resolve mw_721 hK hN hP hD hS hA [0, 1, 2] [0, 1, 2, 3] [] [0, 1, 2, 3] rfl rfl rfl rfl (by decide +kernel) 0 rfl rfl rfl rfl hl.1 rfl (Nat.le_of_ble_eq_true rfl) ⟨Nat.le_of_ble_eq_true rfl, Nat.le_of_ble_eq_true rfl⟩ d_Ref_reach_29 ⟨Nat.le_of_ble_eq_true rfl, Nat.le_of_ble_eq_true rfl⟩ (fun H locs hP hD hS => ?_)
    refine lv_istore (lv' := [(4, .int t2.1), (0, .ref aT), (1, .int p0), (2, .int p1), (3, .int p2)]) hx hb d_Ref_reach_32 hl (by decide) rfl (fun ls hl => ?_)
    refine lv_aload_n hx hb d_Ref_reach_34 rfl (lv_at hl 1 rfl) ?_
    refine va_get (D := D) (ci := 11) (v := .int t2.2.1) (C := "MappedProcessorModel") (T := T_Ref) (N := 14) hx hb hB iw_Ref hown hK hP 0 rfl rfl 5 (by decide) (hB _ mw_648) (fun _ h9 => h9) rfl d_Ref_reach_35 ?_
    refine lv_if_eq (tgt := 93) hx hb d_Ref_reach_38 (by decide) (fun (h3 : t2.2.1 = (0 : Int32)) => ?_) (fun (h3 : ¬ t2.2.1 = (0 : Int32)) => ?_)
    · refine lv_aload_n hx hb d_Ref_reach_93 rfl (lv_at hl 1 rfl) ?_
      refine lv_iload_n hx hb d_Ref_reach_94 rfl (lv_at hl 4 rfl) ?_
      refine k_cVv (As := [.int p2]) (rest := []) (wr := []) (wj := [(aT, .inr (11, [.ref bG, .ref bS, .ref bM, .int rl, .int rk, .int t2.2.1, .int t2.2.2, .int rc, .int rd, .int ra, .int rb, .int rn, .int rf, .int rw])), (bG, .inl (dG, 32, .inl rg)), (bS, .inl (dS, 48, .inl rs)), (bM, .inl (dM, 16384, .inl (f_Ref_touch p2 rm t2.2.2)))]) ⟨hx, hb, hml, hown, hB⟩ (c_Ref_touch l D aT bG bS bM dG dS dM rg rs rm rl rk t2.2.1 t2.2.2 rc rd ra rb rn rf rw p2 (en_resolve _ _ _ _)) yl_Ref_touch mw_753 hK hN hP hD hS hA [0, 1, 2] [0, 1, 2, 3] [] [0, 1, 2, 3] rfl rfl rfl rfl (by decide +kernel) 0 rfl rfl rfl rfl hl.1 rfl (Nat.le_of_ble_eq_true rfl) ⟨Nat.le_of_ble_eq_true rfl, Nat.le_of_ble_eq_true rfl⟩ d_Ref_reach_95 ⟨Nat.le_of_ble_eq_true rfl, Nat.le_of_ble_eq_true rfl⟩ (fun H locs hP hD hS => ?_)
      refine lv_aload_n hx hb d_Ref_reach_98 rfl (lv_at hl 1 rfl) ?_
      refine lv_iload hx hb d_Ref_reach_99 (lv_at hl 0 rfl) ?_
      refine lv_ldc (v := (65535 : Int32)) hx hb hown (hB _ mw_737) d_Ref_reach_101 ?_
      refine lv_iand hx hb d_Ref_reach_103 ?_
      refine va_put (D := D) (ci := 11) (v := .int (t2.1 &&& (65535 : Int32))) (ty := .int) (C := "MappedProcessorModel") (T := T_Ref) (N := 14) hx hb hB iw_Ref ty_Ref ty_Ref_ok nm_Ref hown hK hP hD hS 0 rfl rfl 13 (by decide) (hB _ mw_656) (fun _ h9 => h9) rfl (by decide +kernel) rfl rfl (Nat.le_of_ble_eq_true rfl) d_Ref_reach_104 (fun H locs hP hD hS => ?_)
      have hP : va_P D kCl [(aT, .inr (11, [.ref bG, .ref bS, .ref bM, .int rl, .int rk, .int t2.2.1, .int t2.2.2, .int rc, .int rd, .int ra, .int rb, .int rn, .int rf, .int (t2.1 &&& (65535 : Int32))])), (bG, .inl (dG, 32, .inl rg)), (bS, .inl (dS, 48, .inl rs)), (bM, .inl (dM, 16384, .inl (f_Ref_touch p2 rm t2.2.2)))] H := hP
      have hD : va_D A [(aT, .inr (11, [.ref bG, .ref bS, .ref bM, .int rl, .int rk, .int t2.2.1, .int t2.2.2, .int rc, .int rd, .int ra, .int rb, .int rn, .int rf, .int (t2.1 &&& (65535 : Int32))])), (bG, .inl (dG, 32, .inl rg)), (bS, .inl (dS, 48, .inl rs)), (bM, .inl (dM, 16384, .inl (f_Ref_touch p2 rm t2.2.2)))] := hD
      refine lv_iconst (v := (1 : Int32)) hx hb d_Ref_reach_107 (by decide) ?_
      have ef : f_Ref_reach p0 p1 p2 rs rm rl rr re rn rf rw = ((1 : Int32), rs, (f_Ref_touch p2 rm t2.2.2), rl, t2.2.1, t2.2.2, rn, rf, (t2.1 &&& (65535 : Int32))) := by unfold f_Ref_reach; try dsimp only; rw [if_pos h1, if_pos h3]
      exact k_zret hx hb hr hlocks hK hP hD hS [0, 1, 2, 3] rfl (by rw [ef] <;> rfl) (by rw [ef] <;> rfl) nb1 d_Ref_reach_108
    · refine lv_aload_n hx hb d_Ref_reach_41 rfl (lv_at hl 1 rfl) ?_
      refine va_get (D := D) (ci := 11) (v := .ref bS) (C := "MappedProcessorModel") (T := T_Ref) (N := 14) hx hb hB iw_Ref hown hK hP 0 rfl rfl 1 (by decide) (hB _ mw_644) (fun _ h9 => h9) rfl d_Ref_reach_42 ?_
      refine lv_bipush (v := (9 : Int32)) hx hb d_Ref_reach_45 (by decide) ?_
      refine lv_iload_n hx hb d_Ref_reach_47 rfl (lv_at hl 2 rfl) ?_
      refine k_iast (j := 9) hx hb hK hP hD hS 2 1 rfl rfl (by decide) (by unfold vp_in; decide) d_Ref_reach_48 (fun H locs hP hD hS => ?_)
      have hP : va_P D kCl [(aT, .inr (11, [.ref bG, .ref bS, .ref bM, .int rl, .int rk, .int t2.2.1, .int t2.2.2, .int rc, .int rd, .int ra, .int rb, .int rn, .int rf, .int rw])), (bG, .inl (dG, 32, .inl rg)), (bS, .inl (dS, 48, .inl (upd rs 9 p0))), (bM, .inl (dM, 16384, .inl rm))] H := hP
      have hD : va_D A [(aT, .inr (11, [.ref bG, .ref bS, .ref bM, .int rl, .int rk, .int t2.2.1, .int t2.2.2, .int rc, .int rd, .int ra, .int rb, .int rn, .int rf, .int rw])), (bG, .inl (dG, 32, .inl rg)), (bS, .inl (dS, 48, .inl (upd rs 9 p0))), (bM, .inl (dM, 16384, .inl rm))] := hD
      refine lv_aload_n hx hb d_Ref_reach_49 rfl (lv_at hl 1 rfl) ?_
      refine va_get (D := D) (ci := 11) (v := .ref bS) (C := "MappedProcessorModel") (T := T_Ref) (N := 14) hx hb hB iw_Ref hown hK hP 0 rfl rfl 1 (by decide) (hB _ mw_644) (fun _ h9 => h9) rfl d_Ref_reach_50 ?_
      refine lv_bipush (v := (8 : Int32)) hx hb d_Ref_reach_53 (by decide) ?_
      refine lv_aload_n hx hb d_Ref_reach_55 rfl (lv_at hl 1 rfl) ?_
      refine va_get (D := D) (ci := 11) (v := .int t2.2.1) (C := "MappedProcessorModel") (T := T_Ref) (N := 14) hx hb hB iw_Ref hown hK hP 0 rfl rfl 5 (by decide) (hB _ mw_648) (fun _ h9 => h9) rfl d_Ref_reach_56 ?_
      refine lv_iconst (v := (-1 : Int32)) hx hb d_Ref_reach_59 (by decide) ?_
      refine k_join2 (c0 := t2.2.1 = (-1 : Int32)) (x1 := (1073741824 : Int32)) (x2 := (134217728 : Int32)) (rest := [.int (8 : Int32), .ref bS]) 70 ?_ (fun k5 k6 => ?_)
      rotate_left
      · refine lv_icmp_ne (tgt := 68) hx hb d_Ref_reach_60 (by decide) (fun (h4 : ¬ t2.2.1 = (-1 : Int32)) => ?_) (fun (h4 : t2.2.1 = (-1 : Int32)) => ?_)
        · refine lv_ldc (v := (134217728 : Int32)) hx hb hown (hB _ mw_746) d_Ref_reach_68 ?_
          exact k6 h4
        · refine lv_ldc (v := (1073741824 : Int32)) hx hb hown (hB _ mw_745) d_Ref_reach_63 ?_
          refine lv_goto (tgt := 70) hx hb d_Ref_reach_65 (by decide) ?_
          exact k5 h4
      refine lv_iload_n hx hb d_Ref_reach_70 rfl (lv_at hl 4 rfl) ?_
      refine lv_iconst (v := (2 : Int32)) hx hb d_Ref_reach_71 (by decide) ?_
      refine k_join2 (c0 := p2 = (2 : Int32)) (x1 := (33554432 : Int32)) (x2 := (0 : Int32)) (rest := [.int (if t2.2.1 = (-1 : Int32) then (1073741824 : Int32) else (134217728 : Int32)), .int (8 : Int32), .ref bS]) 81 ?_ (fun k10 k11 => ?_)
      rotate_left
      · refine lv_icmp_ne (tgt := 80) hx hb d_Ref_reach_72 (by decide) (fun (h9 : ¬ p2 = (2 : Int32)) => ?_) (fun (h9 : p2 = (2 : Int32)) => ?_)
        · refine lv_iconst (v := (0 : Int32)) hx hb d_Ref_reach_80 (by decide) ?_
          exact k11 h9
        · refine lv_ldc (v := (33554432 : Int32)) hx hb hown (hB _ mw_862) d_Ref_reach_75 ?_
          refine lv_goto (tgt := 81) hx hb d_Ref_reach_77 (by decide) ?_
          exact k10 h9
      refine lv_iadd hx hb d_Ref_reach_81 ?_
      refine k_iast (j := 8) hx hb hK hP hD hS 2 1 rfl rfl (by decide) (by unfold vp_in; decide) d_Ref_reach_82 (fun H locs hP hD hS => ?_)
      have hP : va_P D kCl [(aT, .inr (11, [.ref bG, .ref bS, .ref bM, .int rl, .int rk, .int t2.2.1, .int t2.2.2, .int rc, .int rd, .int ra, .int rb, .int rn, .int rf, .int rw])), (bG, .inl (dG, 32, .inl rg)), (bS, .inl (dS, 48, .inl (upd (upd rs 9 p0) 8 ((if t2.2.1 = (-1 : Int32) then (1073741824 : Int32) else (134217728 : Int32)) + (if p2 = (2 : Int32) then (33554432 : Int32) else (0 : Int32)))))), (bM, .inl (dM, 16384, .inl rm))] H := hP
      have hD : va_D A [(aT, .inr (11, [.ref bG, .ref bS, .ref bM, .int rl, .int rk, .int t2.2.1, .int t2.2.2, .int rc, .int rd, .int ra, .int rb, .int rn, .int rf, .int rw])), (bG, .inl (dG, 32, .inl rg)), (bS, .inl (dS, 48, .inl (upd (upd rs 9 p0) 8 ((if t2.2.1 = (-1 : Int32) then (1073741824 : Int32) else (134217728 : Int32)) + (if p2 = (2 : Int32) then (33554432 : Int32) else (0 : Int32)))))), (bM, .inl (dM, 16384, .inl rm))] := hD
      refine lv_aload_n hx hb d_Ref_reach_83 rfl (lv_at hl 1 rfl) ?_
      refine lv_sipush (v := (768 : Int32)) hx hb d_Ref_reach_84 (by decide) ?_
      refine lv_iconst (v := (0 : Int32)) hx hb d_Ref_reach_87 (by decide) ?_
      let t14 := (f_Ref_exception (768 : Int32) (0 : Int32) (upd (upd rs 9 p0) 8 ((if t2.2.1 = (-1 : Int32) then (1073741824 : Int32) else (134217728 : Int32)) + (if p2 = (2 : Int32) then (33554432 : Int32) else (0 : Int32)))))
      refine k_cVv (As := [.int (768 : Int32), .int (0 : Int32)]) (rest := []) (wr := []) (wj := [(aT, .inr (11, [.ref bG, .ref bS, .ref bM, .int t14.2.1, .int rk, .int t2.2.1, .int t2.2.2, .int rc, .int rd, .int ra, .int rb, .int t14.2.2.1, .int t14.2.2.2, .int rw])), (bG, .inl (dG, 32, .inl rg)), (bS, .inl (dS, 48, .inl t14.1)), (bM, .inl (dM, 16384, .inl rm))]) ⟨hx, hb, hml, hown, hB⟩ (c_Ref_exception l D aT bG bS bM dG dS dM rg (upd (upd rs 9 p0) 8 ((if t2.2.1 = (-1 : Int32) then (1073741824 : Int32) else (134217728 : Int32)) + (if p2 = (2 : Int32) then (33554432 : Int32) else (0 : Int32)))) rm rl rk t2.2.1 t2.2.2 rc rd ra rb rn rf rw (768 : Int32) (0 : Int32)) yl_Ref_exception mw_748 hK hN hP hD hS hA [0, 1, 2] [0, 1, 2, 3] [] [0, 1, 2, 3] rfl rfl rfl rfl (by decide +kernel) 0 rfl rfl rfl rfl hl.1 rfl (Nat.le_of_ble_eq_true rfl) ⟨Nat.le_of_ble_eq_true rfl, Nat.le_of_ble_eq_true rfl⟩ d_Ref_reach_88 ⟨Nat.le_of_ble_eq_true rfl, Nat.le_of_ble_eq_true rfl⟩ (fun H locs hP hD hS => ?_)
      refine lv_iconst (v := (0 : Int32)) hx hb d_Ref_reach_91 (by decide) ?_
      have ef : f_Ref_reach p0 p1 p2 rs rm rl rr re rn rf rw = ((0 : Int32), t14.1, rm, t14.2.1, t2.2.1, t2.2.2, t14.2.2.1, t14.2.2.2, rw) := by unfold f_Ref_reach; try dsimp only; rw [if_pos h1, if_neg h3]
      exact k_zret hx hb hr hlocks hK hP hD hS [0, 1, 2, 3] rfl (by rw [ef] <;> rfl) (by rw [ef] <;> rfl) nb0 d_Ref_reach_92
  · refine lv_aload_n hx hb d_Ref_reach_8 rfl (lv_at hl 0 rfl) ?_
    refine va_get (D := D) (ci := 11) (v := .ref bS) (C := "MappedProcessorModel") (T := T_Ref) (N := 14) hx hb hB iw_Ref hown hK hP 0 rfl rfl 1 (by decide) (hB _ mw_644) (fun _ h9 => h9) rfl d_Ref_reach_9 ?_
    refine lv_bipush (v := (9 : Int32)) hx hb d_Ref_reach_12 (by decide) ?_
    refine lv_iload_n hx hb d_Ref_reach_14 rfl (lv_at hl 1 rfl) ?_
    refine k_iast (j := 9) hx hb hK hP hD hS 2 1 rfl rfl (by decide) (by unfold vp_in; decide) d_Ref_reach_15 (fun H locs hP hD hS => ?_)
    have hP : va_P D kCl [(aT, .inr (11, [.ref bG, .ref bS, .ref bM, .int rl, .int rk, .int rr, .int re, .int rc, .int rd, .int ra, .int rb, .int rn, .int rf, .int rw])), (bG, .inl (dG, 32, .inl rg)), (bS, .inl (dS, 48, .inl (upd rs 9 p0))), (bM, .inl (dM, 16384, .inl rm))] H := hP
    have hD : va_D A [(aT, .inr (11, [.ref bG, .ref bS, .ref bM, .int rl, .int rk, .int rr, .int re, .int rc, .int rd, .int ra, .int rb, .int rn, .int rf, .int rw])), (bG, .inl (dG, 32, .inl rg)), (bS, .inl (dS, 48, .inl (upd rs 9 p0))), (bM, .inl (dM, 16384, .inl rm))] := hD
    refine lv_aload_n hx hb d_Ref_reach_16 rfl (lv_at hl 0 rfl) ?_
    refine lv_sipush (v := (1536 : Int32)) hx hb d_Ref_reach_17 (by decide) ?_
    refine lv_iconst (v := (0 : Int32)) hx hb d_Ref_reach_20 (by decide) ?_
    let t15 := (f_Ref_exception (1536 : Int32) (0 : Int32) (upd rs 9 p0))
    refine k_cVv (As := [.int (1536 : Int32), .int (0 : Int32)]) (rest := []) (wr := []) (wj := [(aT, .inr (11, [.ref bG, .ref bS, .ref bM, .int t15.2.1, .int rk, .int rr, .int re, .int rc, .int rd, .int ra, .int rb, .int t15.2.2.1, .int t15.2.2.2, .int rw])), (bG, .inl (dG, 32, .inl rg)), (bS, .inl (dS, 48, .inl t15.1)), (bM, .inl (dM, 16384, .inl rm))]) ⟨hx, hb, hml, hown, hB⟩ (c_Ref_exception l D aT bG bS bM dG dS dM rg (upd rs 9 p0) rm rl rk rr re rc rd ra rb rn rf rw (1536 : Int32) (0 : Int32)) yl_Ref_exception mw_748 hK hN hP hD hS hA [0, 1, 2] [0, 1, 2, 3] [] [0, 1, 2, 3] rfl rfl rfl rfl (by decide +kernel) 0 rfl rfl rfl rfl hl.1 rfl (Nat.le_of_ble_eq_true rfl) ⟨Nat.le_of_ble_eq_true rfl, Nat.le_of_ble_eq_true rfl⟩ d_Ref_reach_21 ⟨Nat.le_of_ble_eq_true rfl, Nat.le_of_ble_eq_true rfl⟩ (fun H locs hP hD hS => ?_)
    refine lv_iconst (v := (0 : Int32)) hx hb d_Ref_reach_24 (by decide) ?_
    have ef : f_Ref_reach p0 p1 p2 rs rm rl rr re rn rf rw = ((0 : Int32), t15.1, rm, t15.2.1, rr, re, t15.2.2.1, t15.2.2.2, rw) := by unfold f_Ref_reach; try dsimp only; rw [if_neg h1]
    exact k_zret hx hb hr hlocks hK hP hD hS [0, 1, 2, 3] rfl (by rw [ef] <;> rfl) (by rw [ef] <;> rfl) nb0 d_Ref_reach_25
/-! MappedProcessorModel.above(I)I -/
theorem d_Ref_above_0 : decode b_Ref_above 0 = .ok (.bipush 8, 2) := by decide +kernel
theorem d_Ref_above_2 : decode b_Ref_above 2 = .ok (.iconst 4, 1) := by decide +kernel
theorem d_Ref_above_3 : decode b_Ref_above 3 = .ok (.iload_n 1, 1) := by decide +kernel
theorem d_Ref_above_4 : decode b_Ref_above 4 = .ok (.isub, 1) := by decide +kernel
theorem d_Ref_above_5 : decode b_Ref_above 5 = .ok (.aload_n 0, 1) := by decide +kernel
theorem d_Ref_above_6 : decode b_Ref_above 6 = .ok (.getfield 214, 3) := by decide +kernel
theorem d_Ref_above_9 : decode b_Ref_above 9 = .ok (.iconst 3, 1) := by decide +kernel
theorem d_Ref_above_10 : decode b_Ref_above 10 = .ok (.iand, 1) := by decide +kernel
theorem d_Ref_above_11 : decode b_Ref_above 11 = .ok (.isub, 1) := by decide +kernel
theorem d_Ref_above_12 : decode b_Ref_above 12 = .ok (.imul, 1) := by decide +kernel
theorem d_Ref_above_13 : decode b_Ref_above 13 = .ok (.ireturn, 1) := by decide +kernel
def f_Ref_above (p0 : Int32) (rw : Int32) : Int32 :=
  ((8 : Int32) * (((4 : Int32) - p0) - (rw &&& (3 : Int32))))
set_option maxHeartbeats 4000000 in
set_option maxRecDepth 100000 in
theorem c_Ref_above (l : Launch) (D : va_G) (aT bG bS bM : Nat) (dG dS dM : ClassId) (rg : Nat → Int32) (rs : Nat → Int32) (rm : Nat → Int32) (rl : Int32) (rk : Int32) (rr : Int32) (re : Int32) (rc : Int32) (rd : Int32) (ra : Int32) (rb : Int32) (rn : Int32) (rf : Int32) (rw : Int32) (p0 : Int32) : kMi l y_Ref_above b_Ref_above 2 (some .int) 0 0 D kCl [(dG, .int), (dS, .int), (dM, .int)] [.ref aT, .int p0] [(aT, .inr (11, [.ref bG, .ref bS, .ref bM, .int rl, .int rk, .int rr, .int re, .int rc, .int rd, .int ra, .int rb, .int rn, .int rf, .int rw])), (bG, .inl (dG, 32, .inl rg)), (bS, .inl (dS, 48, .inl rs)), (bM, .inl (dM, 16384, .inl rm))] (f_Ref_above p0 rw) [(aT, .inr (11, [.ref bG, .ref bS, .ref bM, .int rl, .int rk, .int rr, .int re, .int rc, .int rd, .int ra, .int rb, .int rn, .int rf, .int rw])), (bG, .inl (dG, 32, .inl rg)), (bS, .inl (dS, 48, .inl rs)), (bM, .inl (dM, 16384, .inl rm))] := by
  refine k_entry (Qc := fun A => kQi D kCl [(dG, .int), (dS, .int), (dM, .int)] (f_Ref_above p0 rw) [(aT, .inr (11, [.ref bG, .ref bS, .ref bM, .int rl, .int rk, .int rr, .int re, .int rc, .int rd, .int ra, .int rb, .int rn, .int rf, .int rw])), (bG, .inl (dG, 32, .inl rg)), (bS, .inl (dS, 48, .inl rs)), (bM, .inl (dM, 16384, .inl rm))] A) (lv := [(0, .ref aT), (1, .int p0)]) (by decide) (Nat.le_of_ble_eq_true rfl) rfl ?_
  intro p e s m below meth c A ls hx hb hr hml hB hown hlocks hin hA hK hN hP hD hS hl
  have hown : s.vm.findClass "MappedProcessorModel" = some m.cls := hown
  refine lv_bipush (v := (8 : Int32)) hx hb d_Ref_above_0 (by decide) ?_
  refine lv_iconst (v := (4 : Int32)) hx hb d_Ref_above_2 (by decide) ?_
  refine lv_iload_n hx hb d_Ref_above_3 rfl (lv_at hl 1 rfl) ?_
  refine lv_isub hx hb d_Ref_above_4 ?_
  refine lv_aload_n hx hb d_Ref_above_5 rfl (lv_at hl 0 rfl) ?_
  refine va_get (D := D) (ci := 11) (v := .int rw) (C := "MappedProcessorModel") (T := T_Ref) (N := 14) hx hb hB iw_Ref hown hK hP 0 rfl rfl 13 (by decide) (hB _ mw_656) (fun _ h9 => h9) rfl d_Ref_above_6 ?_
  refine lv_iconst (v := (3 : Int32)) hx hb d_Ref_above_9 (by decide) ?_
  refine lv_iand hx hb d_Ref_above_10 ?_
  refine lv_isub hx hb d_Ref_above_11 ?_
  refine lv_imul hx hb d_Ref_above_12 ?_
  have ef : f_Ref_above p0 rw = ((8 : Int32) * (((4 : Int32) - p0) - (rw &&& (3 : Int32)))) := rfl
  exact k_iret hx hb hr hlocks hK hP hD hS [0, 1, 2, 3] rfl rfl (by rw [ef] <;> rfl) d_Ref_above_13
/-! MappedProcessorModel.low(I)I -/
theorem d_Ref_low_0 : decode b_Ref_low 0 = .ok (.iload_n 0, 1) := by decide +kernel
theorem d_Ref_low_1 : decode b_Ref_low 1 = .ok (.iconst 4, 1) := by decide +kernel
theorem d_Ref_low_2 : decode b_Ref_low 2 = .ok (.if_icmp .ne 7, 3) := by decide +kernel
theorem d_Ref_low_5 : decode b_Ref_low 5 = .ok (.iconst (-1), 1) := by decide +kernel
theorem d_Ref_low_6 : decode b_Ref_low 6 = .ok (.goto 16, 3) := by decide +kernel
theorem d_Ref_low_9 : decode b_Ref_low 9 = .ok (.iload_n 0, 1) := by decide +kernel
theorem d_Ref_low_10 : decode b_Ref_low 10 = .ok (.iconst 2, 1) := by decide +kernel
theorem d_Ref_low_11 : decode b_Ref_low 11 = .ok (.if_icmp .ne 8, 3) := by decide +kernel
theorem d_Ref_low_14 : decode b_Ref_low 14 = .ok (.ldc 42, 2) := by decide +kernel
theorem d_Ref_low_16 : decode b_Ref_low 16 = .ok (.goto 6, 3) := by decide +kernel
theorem d_Ref_low_19 : decode b_Ref_low 19 = .ok (.sipush 255, 3) := by decide +kernel
theorem d_Ref_low_22 : decode b_Ref_low 22 = .ok (.ireturn, 1) := by decide +kernel
def f_Ref_low (p0 : Int32) : Int32 :=
  (if p0 = (4 : Int32) then (-1 : Int32) else (if p0 = (2 : Int32) then (65535 : Int32) else (255 : Int32)))
set_option maxHeartbeats 4000000 in
set_option maxRecDepth 100000 in
theorem c_Ref_low (l : Launch) (D : va_G) (p0 : Int32) : kMi l y_Ref_low b_Ref_low 1 (some .int) 0 0 D kCl [] [.int p0] [] (f_Ref_low p0) [] := by
  refine k_entry (Qc := fun A => kQi D kCl [] (f_Ref_low p0) [] A) (lv := [(0, .int p0)]) (by decide) (Nat.le_of_ble_eq_true rfl) rfl ?_
  intro p e s m below meth c A ls hx hb hr hml hB hown hlocks hin hA hK hN hP hD hS hl
  have hown : s.vm.findClass "MappedProcessorModel" = some m.cls := hown
  refine lv_iload_n hx hb d_Ref_low_0 rfl (lv_at hl 0 rfl) ?_
  refine lv_iconst (v := (4 : Int32)) hx hb d_Ref_low_1 (by decide) ?_
  refine k_join2 (c0 := p0 = (4 : Int32)) (x1 := (-1 : Int32)) (x2 := (if p0 = (2 : Int32) then (65535 : Int32) else (255 : Int32))) (rest := []) 22 ?_ (fun k2 k3 => ?_)
  rotate_left
  · refine lv_icmp_ne (tgt := 9) hx hb d_Ref_low_2 (by decide) (fun (h1 : ¬ p0 = (4 : Int32)) => ?_) (fun (h1 : p0 = (4 : Int32)) => ?_)
    · refine lv_iload_n hx hb d_Ref_low_9 rfl (lv_at hl 0 rfl) ?_
      refine lv_iconst (v := (2 : Int32)) hx hb d_Ref_low_10 (by decide) ?_
      refine k_join2 (c0 := p0 = (2 : Int32)) (x1 := (65535 : Int32)) (x2 := (255 : Int32)) (rest := []) 22 ?_ (fun k5 k6 => ?_)
      rotate_left
      · refine lv_icmp_ne (tgt := 19) hx hb d_Ref_low_11 (by decide) (fun (h4 : ¬ p0 = (2 : Int32)) => ?_) (fun (h4 : p0 = (2 : Int32)) => ?_)
        · refine lv_sipush (v := (255 : Int32)) hx hb d_Ref_low_19 (by decide) ?_
          exact k6 h4
        · refine lv_ldc (v := (65535 : Int32)) hx hb hown (hB _ mw_737) d_Ref_low_14 ?_
          refine lv_goto (tgt := 22) hx hb d_Ref_low_16 (by decide) ?_
          exact k5 h4
      exact k3 h1
    · refine lv_iconst (v := (-1 : Int32)) hx hb d_Ref_low_5 (by decide) ?_
      refine lv_goto (tgt := 22) hx hb d_Ref_low_6 (by decide) ?_
      exact k2 h1
  have ef : f_Ref_low p0 = (if p0 = (4 : Int32) then (-1 : Int32) else (if p0 = (2 : Int32) then (65535 : Int32) else (255 : Int32))) := rfl
  exact k_iret hx hb hr hlocks hK hP hD hS [] rfl rfl (by rw [ef] <;> rfl) d_Ref_low_22
/-! MappedProcessorModel.reached(IIIZ)Z -/
theorem d_Ref_reached_0 : decode b_Ref_reached 0 = .ok (.aload_n 0, 1) := by decide +kernel
theorem d_Ref_reached_1 : decode b_Ref_reached 1 = .ok (.iload_n 1, 1) := by decide +kernel
theorem d_Ref_reached_2 : decode b_Ref_reached 2 = .ok (.iload_n 2, 1) := by decide +kernel
theorem d_Ref_reached_3 : decode b_Ref_reached 3 = .ok (.iload_n 3, 1) := by decide +kernel
theorem d_Ref_reached_4 : decode b_Ref_reached 4 = .ok (.invokevirtual 217, 3) := by decide +kernel
theorem d_Ref_reached_7 : decode b_Ref_reached 7 = .ok (.ifCond .ne 5, 3) := by decide +kernel
theorem d_Ref_reached_10 : decode b_Ref_reached 10 = .ok (.iconst 0, 1) := by decide +kernel
theorem d_Ref_reached_11 : decode b_Ref_reached 11 = .ok (.ireturn, 1) := by decide +kernel
theorem d_Ref_reached_12 : decode b_Ref_reached 12 = .ok (.aload_n 0, 1) := by decide +kernel
theorem d_Ref_reached_13 : decode b_Ref_reached 13 = .ok (.getfield 16, 3) := by decide +kernel
theorem d_Ref_reached_16 : decode b_Ref_reached 16 = .ok (.aload_n 0, 1) := by decide +kernel
theorem d_Ref_reached_17 : decode b_Ref_reached 17 = .ok (.getfield 214, 3) := by decide +kernel
theorem d_Ref_reached_20 : decode b_Ref_reached 20 = .ok (.iconst 2, 1) := by decide +kernel
theorem d_Ref_reached_21 : decode b_Ref_reached 21 = .ok (.iushr, 1) := by decide +kernel
theorem d_Ref_reached_22 : decode b_Ref_reached 22 = .ok (.iaload, 1) := by decide +kernel
theorem d_Ref_reached_23 : decode b_Ref_reached 23 = .ok (.istore 5, 2) := by decide +kernel
theorem d_Ref_reached_25 : decode b_Ref_reached 25 = .ok (.aload_n 0, 1) := by decide +kernel
theorem d_Ref_reached_26 : decode b_Ref_reached 26 = .ok (.iload_n 2, 1) := by decide +kernel
theorem d_Ref_reached_27 : decode b_Ref_reached 27 = .ok (.invokevirtual 221, 3) := by decide +kernel
theorem d_Ref_reached_30 : decode b_Ref_reached 30 = .ok (.istore 6, 2) := by decide +kernel
theorem d_Ref_reached_32 : decode b_Ref_reached 32 = .ok (.iload_n 3, 1) := by decide +kernel
theorem d_Ref_reached_33 : decode b_Ref_reached 33 = .ok (.iconst 1, 1) := by decide +kernel
theorem d_Ref_reached_34 : decode b_Ref_reached 34 = .ok (.if_icmp .ne 45, 3) := by decide +kernel
theorem d_Ref_reached_37 : decode b_Ref_reached 37 = .ok (.iload 5, 2) := by decide +kernel
theorem d_Ref_reached_39 : decode b_Ref_reached 39 = .ok (.iload 6, 2) := by decide +kernel
theorem d_Ref_reached_41 : decode b_Ref_reached 41 = .ok (.iushr, 1) := by decide +kernel
theorem d_Ref_reached_42 : decode b_Ref_reached 42 = .ok (.iload_n 2, 1) := by decide +kernel
theorem d_Ref_reached_43 : decode b_Ref_reached 43 = .ok (.invokestatic 224, 3) := by decide +kernel
theorem d_Ref_reached_46 : decode b_Ref_reached 46 = .ok (.iand, 1) := by decide +kernel
theorem d_Ref_reached_47 : decode b_Ref_reached 47 = .ok (.istore 7, 2) := by decide +kernel
theorem d_Ref_reached_49 : decode b_Ref_reached 49 = .ok (.aload_n 0, 1) := by decide +kernel
theorem d_Ref_reached_50 : decode b_Ref_reached 50 = .ok (.getfield 7, 3) := by decide +kernel
theorem d_Ref_reached_53 : decode b_Ref_reached 53 = .ok (.aload_n 0, 1) := by decide +kernel
theorem d_Ref_reached_54 : decode b_Ref_reached 54 = .ok (.getfield 82, 3) := by decide +kernel
theorem d_Ref_reached_57 : decode b_Ref_reached 57 = .ok (.iload 4, 2) := by decide +kernel
theorem d_Ref_reached_59 : decode b_Ref_reached 59 = .ok (.ifCond .eq 14, 3) := by decide +kernel
theorem d_Ref_reached_62 : decode b_Ref_reached 62 = .ok (.iload 7, 2) := by decide +kernel
theorem d_Ref_reached_64 : decode b_Ref_reached 64 = .ok (.bipush 16, 2) := by decide +kernel
theorem d_Ref_reached_66 : decode b_Ref_reached 66 = .ok (.ishl, 1) := by decide +kernel
theorem d_Ref_reached_67 : decode b_Ref_reached 67 = .ok (.bipush 16, 2) := by decide +kernel
theorem d_Ref_reached_69 : decode b_Ref_reached 69 = .ok (.ishr, 1) := by decide +kernel
theorem d_Ref_reached_70 : decode b_Ref_reached 70 = .ok (.goto 5, 3) := by decide +kernel
theorem d_Ref_reached_73 : decode b_Ref_reached 73 = .ok (.iload 7, 2) := by decide +kernel
theorem d_Ref_reached_75 : decode b_Ref_reached 75 = .ok (.iastore, 1) := by decide +kernel
theorem d_Ref_reached_76 : decode b_Ref_reached 76 = .ok (.goto 44, 3) := by decide +kernel
theorem d_Ref_reached_79 : decode b_Ref_reached 79 = .ok (.aload_n 0, 1) := by decide +kernel
theorem d_Ref_reached_80 : decode b_Ref_reached 80 = .ok (.getfield 16, 3) := by decide +kernel
theorem d_Ref_reached_83 : decode b_Ref_reached 83 = .ok (.aload_n 0, 1) := by decide +kernel
theorem d_Ref_reached_84 : decode b_Ref_reached 84 = .ok (.getfield 214, 3) := by decide +kernel
theorem d_Ref_reached_87 : decode b_Ref_reached 87 = .ok (.iconst 2, 1) := by decide +kernel
theorem d_Ref_reached_88 : decode b_Ref_reached 88 = .ok (.iushr, 1) := by decide +kernel
theorem d_Ref_reached_89 : decode b_Ref_reached 89 = .ok (.iload 5, 2) := by decide +kernel
theorem d_Ref_reached_91 : decode b_Ref_reached 91 = .ok (.iload_n 2, 1) := by decide +kernel
theorem d_Ref_reached_92 : decode b_Ref_reached 92 = .ok (.invokestatic 224, 3) := by decide +kernel
theorem d_Ref_reached_95 : decode b_Ref_reached 95 = .ok (.iload 6, 2) := by decide +kernel
theorem d_Ref_reached_97 : decode b_Ref_reached 97 = .ok (.ishl, 1) := by decide +kernel
theorem d_Ref_reached_98 : decode b_Ref_reached 98 = .ok (.iconst (-1), 1) := by decide +kernel
theorem d_Ref_reached_99 : decode b_Ref_reached 99 = .ok (.ixor, 1) := by decide +kernel
theorem d_Ref_reached_100 : decode b_Ref_reached 100 = .ok (.iand, 1) := by decide +kernel
theorem d_Ref_reached_101 : decode b_Ref_reached 101 = .ok (.aload_n 0, 1) := by decide +kernel
theorem d_Ref_reached_102 : decode b_Ref_reached 102 = .ok (.getfield 7, 3) := by decide +kernel
theorem d_Ref_reached_105 : decode b_Ref_reached 105 = .ok (.aload_n 0, 1) := by decide +kernel
theorem d_Ref_reached_106 : decode b_Ref_reached 106 = .ok (.getfield 82, 3) := by decide +kernel
theorem d_Ref_reached_109 : decode b_Ref_reached 109 = .ok (.iaload, 1) := by decide +kernel
theorem d_Ref_reached_110 : decode b_Ref_reached 110 = .ok (.iload_n 2, 1) := by decide +kernel
theorem d_Ref_reached_111 : decode b_Ref_reached 111 = .ok (.invokestatic 224, 3) := by decide +kernel
theorem d_Ref_reached_114 : decode b_Ref_reached 114 = .ok (.iand, 1) := by decide +kernel
theorem d_Ref_reached_115 : decode b_Ref_reached 115 = .ok (.iload 6, 2) := by decide +kernel
theorem d_Ref_reached_117 : decode b_Ref_reached 117 = .ok (.ishl, 1) := by decide +kernel
theorem d_Ref_reached_118 : decode b_Ref_reached 118 = .ok (.ior, 1) := by decide +kernel
theorem d_Ref_reached_119 : decode b_Ref_reached 119 = .ok (.iastore, 1) := by decide +kernel
theorem d_Ref_reached_120 : decode b_Ref_reached 120 = .ok (.iconst 1, 1) := by decide +kernel
theorem d_Ref_reached_121 : decode b_Ref_reached 121 = .ok (.ireturn, 1) := by decide +kernel
def f_Ref_reached (p0 : Int32) (p1 : Int32) (p2 : Int32) (p3 : Int32) (rg : Nat → Int32) (rs : Nat → Int32) (rm : Nat → Int32) (rl : Int32) (rr : Int32) (re : Int32) (rd : Int32) (rn : Int32) (rf : Int32) (rw : Int32) : Int32 × (Nat → Int32) × (Nat → Int32) × (Nat → Int32) × Int32 × Int32 × Int32 × Int32 × Int32 × Int32 :=
  let t1 := (f_Ref_reach p0 p1 p2 rs rm rl rr re rn rf rw)
  if t1.1 = (0 : Int32) then
    ((0 : Int32), rg, t1.2.1, t1.2.2.1, t1.2.2.2.1, t1.2.2.2.2.1, t1.2.2.2.2.2.1, t1.2.2.2.2.2.2.1, t1.2.2.2.2.2.2.2.1, t1.2.2.2.2.2.2.2.2)
  else
    if p2 = (1 : Int32) then
      ((1 : Int32), (upd rg (ix rd) (if p3 = (0 : Int32) then ((ush (t1.2.2.1 (ix (ush t1.2.2.2.2.2.2.2.2 (2 : Int32)))) (f_Ref_above p1 t1.2.2.2.2.2.2.2.2)) &&& (f_Ref_low p1)) else (shr (shl ((ush (t1.2.2.1 (ix (ush t1.2.2.2.2.2.2.2.2 (2 : Int32)))) (f_Ref_above p1 t1.2.2.2.2.2.2.2.2)) &&& (f_Ref_low p1)) (16 : Int32)) (16 : Int32)))), t1.2.1, t1.2.2.1, t1.2.2.2.1, t1.2.2.2.2.1, t1.2.2.2.2.2.1, t1.2.2.2.2.2.2.1, t1.2.2.2.2.2.2.2.1, t1.2.2.2.2.2.2.2.2)
    else
      ((1 : Int32), rg, t1.2.1, (upd t1.2.2.1 (ix (ush t1.2.2.2.2.2.2.2.2 (2 : Int32))) (((t1.2.2.1 (ix (ush t1.2.2.2.2.2.2.2.2 (2 : Int32)))) &&& ((shl (f_Ref_low p1) (f_Ref_above p1 t1.2.2.2.2.2.2.2.2)) ^^^ (-1 : Int32))) ||| (shl ((rg (ix rd)) &&& (f_Ref_low p1)) (f_Ref_above p1 t1.2.2.2.2.2.2.2.2)))), t1.2.2.2.1, t1.2.2.2.2.1, t1.2.2.2.2.2.1, t1.2.2.2.2.2.2.1, t1.2.2.2.2.2.2.2.1, t1.2.2.2.2.2.2.2.2)
set_option maxHeartbeats 4000000 in
set_option maxRecDepth 100000 in
theorem ib_Ref_reached (p0 : Int32) (p1 : Int32) (p2 : Int32) (p3 : Int32) (rg : Nat → Int32) (rs : Nat → Int32) (rm : Nat → Int32) (rl : Int32) (rr : Int32) (re : Int32) (rd : Int32) (rn : Int32) (rf : Int32) (rw : Int32) : isB (f_Ref_reached p0 p1 p2 p3 rg rs rm rl rr re rd rn rf rw).1 := by
  unfold f_Ref_reached
  try dsimp only
  repeat' (first | refine ib_ite ?_ ?_ | refine ib_ite0 ?_ ?_ | with_reducible exact ib0 | with_reducible exact ib1 | with_reducible exact ib_Ref_reach _ _ _ _ _ _ _ _ _ _ _ | (dsimp only; first | exact ib0 | exact ib1))
theorem nb_Ref_reached (p0 : Int32) (p1 : Int32) (p2 : Int32) (p3 : Int32) (rg : Nat → Int32) (rs : Nat → Int32) (rm : Nat → Int32) (rl : Int32) (rr : Int32) (re : Int32) (rd : Int32) (rn : Int32) (rf : Int32) (rw : Int32) : narrow .boolean (.int (f_Ref_reached p0 p1 p2 p3 rg rs rm rl rr re rd rn rf rw).1) = .int (f_Ref_reached p0 p1 p2 p3 rg rs rm rl rr re rd rn rf rw).1 := nb_of (ib_Ref_reached p0 p1 p2 p3 rg rs rm rl rr re rd rn rf rw)
def rw_ok (z : Int32 × (Nat → Int32) × (Nat → Int32) × Int32 × Int32 × Int32 × Int32 × Int32 × Int32) : Prop := z.1 = 0 ∨ ∃ x : Int32, z.2.2.2.2.2.2.2.2 = x &&& 65535
theorem reach_ok (p0 p1 p2 : Int32) (rs rm : Nat → Int32) (rl rr re rn rf rw : Int32) : rw_ok (f_Ref_reach p0 p1 p2 rs rm rl rr re rn rf rw) := by
  unfold f_Ref_reach
  try dsimp only
  repeat' (with_reducible refine pred_ite ?_ ?_)
  · exact Or.inr ⟨_, rfl⟩
  · exact Or.inl rfl
  · exact Or.inl rfl
theorem ix_reach {p0 p1 p2 : Int32} {rs rm : Nat → Int32} {rl rr re rn rf rw : Int32} (h : ¬ (f_Ref_reach p0 p1 p2 rs rm rl rr re rn rf rw).1 = 0) : vp_in (ush (f_Ref_reach p0 p1 p2 rs rm rl rr re rn rf rw).2.2.2.2.2.2.2.2 2) 16384 := by
  rcases reach_ok p0 p1 p2 rs rm rl rr re rn rf rw with q | ⟨x, q⟩
  · exact absurd q h
  · rw [q]; exact ixW x
def rq_Ref_reached (z : Int32 × (Nat → Int32) × (Nat → Int32) × (Nat → Int32) × Int32 × Int32 × Int32 × Int32 × Int32 × Int32) : Prop := isB z.2.2.2.2.2.2.2.2.1
set_option maxHeartbeats 4000000 in
set_option maxRecDepth 100000 in
theorem rq0_Ref_reached (p0 : Int32) (p1 : Int32) (p2 : Int32) (p3 : Int32) (rg : Nat → Int32) (rs : Nat → Int32) (rm : Nat → Int32) (rl : Int32) (rr : Int32) (re : Int32) (rd : Int32) (rn : Int32) (rf : Int32) (rw : Int32) (h : isB rf) : rq_Ref_reached (f_Ref_reached p0 p1 p2 p3 rg rs rm rl rr re rd rn rf rw) := by
  unfold f_Ref_reached
  try dsimp only
  repeat' (with_reducible refine pred_ite ?_ ?_)
  all_goals (unfold rq_Ref_reached)
  all_goals (try dsimp only)
  all_goals first | with_reducible exact h | with_reducible exact ib0 | with_reducible exact ib1 | exact rb_Ref_reach _ _ _ _ _ _ _ _ _ _ _ (by first | with_reducible exact h | with_reducible exact ib0 | with_reducible exact ib1 | exact rb_Ref_reach _ _ _ _ _ _ _ _ _ _ _ (by first | with_reducible exact h | with_reducible exact ib0 | with_reducible exact ib1))
theorem rb_Ref_reached (p0 : Int32) (p1 : Int32) (p2 : Int32) (p3 : Int32) (rg : Nat → Int32) (rs : Nat → Int32) (rm : Nat → Int32) (rl : Int32) (rr : Int32) (re : Int32) (rd : Int32) (rn : Int32) (rf : Int32) (rw : Int32) (h : isB rf) : isB (f_Ref_reached p0 p1 p2 p3 rg rs rm rl rr re rd rn rf rw).2.2.2.2.2.2.2.2.1 := rq0_Ref_reached p0 p1 p2 p3 rg rs rm rl rr re rd rn rf rw h
set_option maxHeartbeats 4000000 in
set_option maxRecDepth 100000 in
theorem c_Ref_reached (l : Launch) (D : va_G) (aT bG bS bM : Nat) (dG dS dM : ClassId) (rg : Nat → Int32) (rs : Nat → Int32) (rm : Nat → Int32) (rl : Int32) (rk : Int32) (rr : Int32) (re : Int32) (rc : Int32) (rd : Int32) (ra : Int32) (rb : Int32) (rn : Int32) (rf : Int32) (rw : Int32) (p0 : Int32) (p1 : Int32) (p2 : Int32) (p3 : Int32) (hrd : vp_in rd 32) : kMi l y_Ref_reached b_Ref_reached 8 (some .boolean) 4 106 D kCl [(dG, .int), (dS, .int), (dM, .int)] [.ref aT, .int p0, .int p1, .int p2, .int p3] [(aT, .inr (11, [.ref bG, .ref bS, .ref bM, .int rl, .int rk, .int rr, .int re, .int rc, .int rd, .int ra, .int rb, .int rn, .int rf, .int rw])), (bG, .inl (dG, 32, .inl rg)), (bS, .inl (dS, 48, .inl rs)), (bM, .inl (dM, 16384, .inl rm))] (f_Ref_reached p0 p1 p2 p3 rg rs rm rl rr re rd rn rf rw).1 [(aT, .inr (11, [.ref bG, .ref bS, .ref bM, .int (f_Ref_reached p0 p1 p2 p3 rg rs rm rl rr re rd rn rf rw).2.2.2.2.1, .int rk, .int (f_Ref_reached p0 p1 p2 p3 rg rs rm rl rr re rd rn rf rw).2.2.2.2.2.1, .int (f_Ref_reached p0 p1 p2 p3 rg rs rm rl rr re rd rn rf rw).2.2.2.2.2.2.1, .int rc, .int rd, .int ra, .int rb, .int (f_Ref_reached p0 p1 p2 p3 rg rs rm rl rr re rd rn rf rw).2.2.2.2.2.2.2.1, .int (f_Ref_reached p0 p1 p2 p3 rg rs rm rl rr re rd rn rf rw).2.2.2.2.2.2.2.2.1, .int (f_Ref_reached p0 p1 p2 p3 rg rs rm rl rr re rd rn rf rw).2.2.2.2.2.2.2.2.2])), (bG, .inl (dG, 32, .inl (f_Ref_reached p0 p1 p2 p3 rg rs rm rl rr re rd rn rf rw).2.1)), (bS, .inl (dS, 48, .inl (f_Ref_reached p0 p1 p2 p3 rg rs rm rl rr re rd rn rf rw).2.2.1)), (bM, .inl (dM, 16384, .inl (f_Ref_reached p0 p1 p2 p3 rg rs rm rl rr re rd rn rf rw).2.2.2.1))] := by
  refine k_entry (Qc := fun A => kQi D kCl [(dG, .int), (dS, .int), (dM, .int)] (f_Ref_reached p0 p1 p2 p3 rg rs rm rl rr re rd rn rf rw).1 [(aT, .inr (11, [.ref bG, .ref bS, .ref bM, .int (f_Ref_reached p0 p1 p2 p3 rg rs rm rl rr re rd rn rf rw).2.2.2.2.1, .int rk, .int (f_Ref_reached p0 p1 p2 p3 rg rs rm rl rr re rd rn rf rw).2.2.2.2.2.1, .int (f_Ref_reached p0 p1 p2 p3 rg rs rm rl rr re rd rn rf rw).2.2.2.2.2.2.1, .int rc, .int rd, .int ra, .int rb, .int (f_Ref_reached p0 p1 p2 p3 rg rs rm rl rr re rd rn rf rw).2.2.2.2.2.2.2.1, .int (f_Ref_reached p0 p1 p2 p3 rg rs rm rl rr re rd rn rf rw).2.2.2.2.2.2.2.2.1, .int (f_Ref_reached p0 p1 p2 p3 rg rs rm rl rr re rd rn rf rw).2.2.2.2.2.2.2.2.2])), (bG, .inl (dG, 32, .inl (f_Ref_reached p0 p1 p2 p3 rg rs rm rl rr re rd rn rf rw).2.1)), (bS, .inl (dS, 48, .inl (f_Ref_reached p0 p1 p2 p3 rg rs rm rl rr re rd rn rf rw).2.2.1)), (bM, .inl (dM, 16384, .inl (f_Ref_reached p0 p1 p2 p3 rg rs rm rl rr re rd rn rf rw).2.2.2.1))] A) (lv := [(0, .ref aT), (1, .int p0), (2, .int p1), (3, .int p2), (4, .int p3)]) (by decide) (Nat.le_of_ble_eq_true rfl) rfl ?_
  intro p e s m below meth c A ls hx hb hr hml hB hown hlocks hin hA hK hN hP hD hS hl
  have hown : s.vm.findClass "MappedProcessorModel" = some m.cls := hown
  refine lv_aload_n hx hb d_Ref_reached_0 rfl (lv_at hl 0 rfl) ?_
  refine lv_iload_n hx hb d_Ref_reached_1 rfl (lv_at hl 1 rfl) ?_
  refine lv_iload_n hx hb d_Ref_reached_2 rfl (lv_at hl 2 rfl) ?_
  refine lv_iload_n hx hb d_Ref_reached_3 rfl (lv_at hl 3 rfl) ?_
  let t1 := (f_Ref_reach p0 p1 p2 rs rm rl rr re rn rf rw)
  refine k_cVi (As := [.int p0, .int p1, .int p2]) (rest := []) (wr := []) (wj := [(aT, .inr (11, [.ref bG, .ref bS, .ref bM, .int t1.2.2.2.1, .int rk, .int t1.2.2.2.2.1, .int t1.2.2.2.2.2.1, .int rc, .int rd, .int ra, .int rb, .int t1.2.2.2.2.2.2.1, .int t1.2.2.2.2.2.2.2.1, .int t1.2.2.2.2.2.2.2.2])), (bG, .inl (dG, 32, .inl rg)), (bS, .inl (dS, 48, .inl t1.2.1)), (bM, .inl (dM, 16384, .inl t1.2.2.1))]) ⟨hx, hb, hml, hown, hB⟩ (c_Ref_reach l D aT bG bS bM dG dS dM rg rs rm rl rk rr re rc rd ra rb rn rf rw p0 p1 p2) yl_Ref_reach mw_858 hK hN hP hD hS hA [0, 1, 2] [0, 1, 2, 3] [] [0, 1, 2, 3] rfl rfl rfl rfl (by decide +kernel) 0 rfl rfl rfl rfl hl.1 rfl (Nat.le_of_ble_eq_true rfl) ⟨Nat.le_of_ble_eq_true rfl, Nat.le_of_ble_eq_true rfl⟩ d_Ref_reached_4 ⟨Nat.le_of_ble_eq_true rfl, Nat.le_of_ble_eq_true rfl⟩ (fun H locs hP hD hS => ?_)
  refine lv_if_ne (tgt := 12) hx hb d_Ref_reached_7 (by decide) (fun (h2 : ¬ t1.1 = (0 : Int32)) => ?_) (fun (h2 : t1.1 = (0 : Int32)) => ?_)
  · refine lv_aload_n hx hb d_Ref_reached_12 rfl (lv_at hl 0 rfl) ?_
    refine va_get (D := D) (ci := 11) (v := .ref bM) (C := "MappedProcessorModel") (T := T_Ref) (N := 14) hx hb hB iw_Ref hown hK hP 0 rfl rfl 2 (by decide) (hB _ mw_645) (fun _ h9 => h9) rfl d_Ref_reached_13 ?_
    refine lv_aload_n hx hb d_Ref_reached_16 rfl (lv_at hl 0 rfl) ?_
    refine va_get (D := D) (ci := 11) (v := .int t1.2.2.2.2.2.2.2.2) (C := "MappedProcessorModel") (T := T_Ref) (N := 14) hx hb hB iw_Ref hown hK hP 0 rfl rfl 13 (by decide) (hB _ mw_656) (fun _ h9 => h9) rfl d_Ref_reached_17 ?_
    refine lv_iconst (v := (2 : Int32)) hx hb d_Ref_reached_20 (by decide) ?_
    refine lv_iushr (v := (ush t1.2.2.2.2.2.2.2.2 (2 : Int32))) hx hb d_Ref_reached_21 rfl ?_
    refine k_iald (j := (ix (ush t1.2.2.2.2.2.2.2.2 (2 : Int32)))) hx hb hK hP 3 2 rfl rfl rfl (ix_reach h2) d_Ref_reached_22 ?_
    refine lv_istore (lv' := [(5, .int (t1.2.2.1 (ix (ush t1.2.2.2.2.2.2.2.2 (2 : Int32))))), (0, .ref aT), (1, .int p0), (2, .int p1), (3, .int p2), (4, .int p3)]) hx hb d_Ref_reached_23 hl (by decide) rfl (fun ls hl => ?_)
    refine lv_aload_n hx hb d_Ref_reached_25 rfl (lv_at hl 1 rfl) ?_
    refine lv_iload_n hx hb d_Ref_reached_26 rfl (lv_at hl 3 rfl) ?_
    refine k_cVi (As := [.int p1]) (rest := []) (wr := []) (wj := [(aT, .inr (11, [.ref bG, .ref bS, .ref bM, .int t1.2.2.2.1, .int rk, .int t1.2.2.2.2.1, .int t1.2.2.2.2.2.1, .int rc, .int rd, .int ra, .int rb, .int t1.2.2.2.2.2.2.1, .int t1.2.2.2.2.2.2.2.1, .int t1.2.2.2.2.2.2.2.2])), (bG, .inl (dG, 32, .inl rg)), (bS, .inl (dS, 48, .inl t1.2.1)), (bM, .inl (dM, 16384, .inl t1.2.2.1))]) ⟨hx, hb, hml, hown, hB⟩ (c_Ref_above l D aT bG bS bM dG dS dM rg t1.2.1 t1.2.2.1 t1.2.2.2.1 rk t1.2.2.2.2.1 t1.2.2.2.2.2.1 rc rd ra rb t1.2.2.2.2.2.2.1 t1.2.2.2.2.2.2.2.1 t1.2.2.2.2.2.2.2.2 p1) yl_Ref_above mw_863 hK hN hP hD hS hA [0, 1, 2] [0, 1, 2, 3] [] [0, 1, 2, 3] rfl rfl rfl rfl (by decide +kernel) 0 rfl rfl rfl rfl hl.1 rfl (Nat.le_of_ble_eq_true rfl) ⟨Nat.le_of_ble_eq_true rfl, Nat.le_of_ble_eq_true rfl⟩ d_Ref_reached_27 ⟨Nat.le_of_ble_eq_true rfl, Nat.le_of_ble_eq_true rfl⟩ (fun H locs hP hD hS => ?_)
    refine lv_istore (lv' := [(6, .int (f_Ref_above p1 t1.2.2.2.2.2.2.2.2)), (5, .int (t1.2.2.1 (ix (ush t1.2.2.2.2.2.2.2.2 (2 : Int32))))), (0, .ref aT), (1, .int p0), (2, .int p1), (3, .int p2), (4, .int p3)]) hx hb d_Ref_reached_30 hl (by decide) rfl (fun ls hl => ?_)
    refine lv_iload_n hx hb d_Ref_reached_32 rfl (lv_at hl 5 rfl) ?_
    refine lv_iconst (v := (1 : Int32)) hx hb d_Ref_reached_33 (by decide) ?_
    refine lv_icmp_ne (tgt := 79) hx hb d_Ref_reached_34 (by decide) (fun (h6 : ¬ p2 = (1 : Int32)) => ?_) (fun (h6 : p2 = (1 : Int32)) => ?_)
    · refine lv_aload_n hx hb d_Ref_reached_79 rfl (lv_at hl 2 rfl) ?_
      refine va_get (D := D) (ci := 11) (v := .ref bM) (C := "MappedProcessorModel") (T := T_Ref) (N := 14) hx hb hB iw_Ref hown hK hP 0 rfl rfl 2 (by decide) (hB _ mw_645) (fun _ h9 => h9) rfl d_Ref_reached_80 ?_
      refine lv_aload_n hx hb d_Ref_reached_83 rfl (lv_at hl 2 rfl) ?_
      refine va_get (D := D) (ci := 11) (v := .int t1.2.2.2.2.2.2.2.2) (C := "MappedProcessorModel") (T := T_Ref) (N := 14) hx hb hB iw_Ref hown hK hP 0 rfl rfl 13 (by decide) (hB _ mw_656) (fun _ h9 => h9) rfl d_Ref_reached_84 ?_
      refine lv_iconst (v := (2 : Int32)) hx hb d_Ref_reached_87 (by decide) ?_
      refine lv_iushr (v := (ush t1.2.2.2.2.2.2.2.2 (2 : Int32))) hx hb d_Ref_reached_88 rfl ?_
      refine lv_iload hx hb d_Ref_reached_89 (lv_at hl 1 rfl) ?_
      refine lv_iload_n hx hb d_Ref_reached_91 rfl (lv_at hl 4 rfl) ?_
      refine k_cSi (As := [.int p1]) (rest := [.int (t1.2.2.1 (ix (ush t1.2.2.2.2.2.2.2.2 (2 : Int32)))), .int (ush t1.2.2.2.2.2.2.2.2 (2 : Int32)), .ref bM]) (wr := [(aT, .inr (11, [.ref bG, .ref bS, .ref bM, .int t1.2.2.2.1, .int rk, .int t1.2.2.2.2.1, .int t1.2.2.2.2.2.1, .int rc, .int rd, .int ra, .int rb, .int t1.2.2.2.2.2.2.1, .int t1.2.2.2.2.2.2.2.1, .int t1.2.2.2.2.2.2.2.2])), (bG, .inl (dG, 32, .inl rg)), (bS, .inl (dS, 48, .inl t1.2.1)), (bM, .inl (dM, 16384, .inl t1.2.2.1))]) (wj := [(aT, .inr (11, [.ref bG, .ref bS, .ref bM, .int t1.2.2.2.1, .int rk, .int t1.2.2.2.2.1, .int t1.2.2.2.2.2.1, .int rc, .int rd, .int ra, .int rb, .int t1.2.2.2.2.2.2.1, .int t1.2.2.2.2.2.2.2.1, .int t1.2.2.2.2.2.2.2.2])), (bG, .inl (dG, 32, .inl rg)), (bS, .inl (dS, 48, .inl t1.2.1)), (bM, .inl (dM, 16384, .inl t1.2.2.1))]) ⟨hx, hb, hml, hown, hB⟩ (c_Ref_low l D p1) yl_Ref_low mw_867 hK hN hP hD hS hA [] [] [0, 1, 2, 3] [0, 1, 2, 3] rfl rfl rfl rfl (by decide +kernel) rfl hl.1 rfl (Nat.le_of_ble_eq_true rfl) ⟨Nat.le_of_ble_eq_true rfl, Nat.le_of_ble_eq_true rfl⟩ d_Ref_reached_92 ⟨Nat.le_of_ble_eq_true rfl, Nat.le_of_ble_eq_true rfl⟩ (fun H locs hP hD hS => ?_)
      refine lv_iload hx hb d_Ref_reached_95 (lv_at hl 0 rfl) ?_
      refine lv_ishl hx hb d_Ref_reached_97 ?_
      refine lv_iconst (v := (-1 : Int32)) hx hb d_Ref_reached_98 (by decide) ?_
      refine lv_ixor hx hb d_Ref_reached_99 ?_
      refine lv_iand hx hb d_Ref_reached_100 ?_
      refine lv_aload_n hx hb d_Ref_reached_101 rfl (lv_at hl 2 rfl) ?_
      refine va_get (D := D) (ci := 11) (v := .ref bG) (C := "MappedProcessorModel") (T := T_Ref) (N := 14) hx hb hB iw_Ref hown hK hP 0 rfl rfl 0 (by decide) (hB _ mw_643) (fun _ h9 => h9) rfl d_Ref_reached_102 ?_
      refine lv_aload_n hx hb d_Ref_reached_105 rfl (lv_at hl 2 rfl) ?_
      refine va_get (D := D) (ci := 11) (v := .int rd) (C := "MappedProcessorModel") (T := T_Ref) (N := 14) hx hb hB iw_Ref hown hK hP 0 rfl rfl 8 (by decide) (hB _ mw_651) (fun _ h9 => h9) rfl d_Ref_reached_106 ?_
      refine k_iald (j := (ix rd)) hx hb hK hP 1 0 rfl rfl rfl hrd d_Ref_reached_109 ?_
      refine lv_iload_n hx hb d_Ref_reached_110 rfl (lv_at hl 4 rfl) ?_
      refine k_cSi (As := [.int p1]) (rest := [.int (rg (ix rd)), .int ((t1.2.2.1 (ix (ush t1.2.2.2.2.2.2.2.2 (2 : Int32)))) &&& ((shl (f_Ref_low p1) (f_Ref_above p1 t1.2.2.2.2.2.2.2.2)) ^^^ (-1 : Int32))), .int (ush t1.2.2.2.2.2.2.2.2 (2 : Int32)), .ref bM]) (wr := [(aT, .inr (11, [.ref bG, .ref bS, .ref bM, .int t1.2.2.2.1, .int rk, .int t1.2.2.2.2.1, .int t1.2.2.2.2.2.1, .int rc, .int rd, .int ra, .int rb, .int t1.2.2.2.2.2.2.1, .int t1.2.2.2.2.2.2.2.1, .int t1.2.2.2.2.2.2.2.2])), (bG, .inl (dG, 32, .inl rg)), (bS, .inl (dS, 48, .inl t1.2.1)), (bM, .inl (dM, 16384, .inl t1.2.2.1))]) (wj := [(aT, .inr (11, [.ref bG, .ref bS, .ref bM, .int t1.2.2.2.1, .int rk, .int t1.2.2.2.2.1, .int t1.2.2.2.2.2.1, .int rc, .int rd, .int ra, .int rb, .int t1.2.2.2.2.2.2.1, .int t1.2.2.2.2.2.2.2.1, .int t1.2.2.2.2.2.2.2.2])), (bG, .inl (dG, 32, .inl rg)), (bS, .inl (dS, 48, .inl t1.2.1)), (bM, .inl (dM, 16384, .inl t1.2.2.1))]) ⟨hx, hb, hml, hown, hB⟩ (c_Ref_low l D p1) yl_Ref_low mw_867 hK hN hP hD hS hA [] [] [0, 1, 2, 3] [0, 1, 2, 3] rfl rfl rfl rfl (by decide +kernel) rfl hl.1 rfl (Nat.le_of_ble_eq_true rfl) ⟨Nat.le_of_ble_eq_true rfl, Nat.le_of_ble_eq_true rfl⟩ d_Ref_reached_111 ⟨Nat.le_of_ble_eq_true rfl, Nat.le_of_ble_eq_true rfl⟩ (fun H locs hP hD hS => ?_)
      refine lv_iand hx hb d_Ref_reached_114 ?_
      refine lv_iload hx hb d_Ref_reached_115 (lv_at hl 0 rfl) ?_
      refine lv_ishl hx hb d_Ref_reached_117 ?_
      refine lv_ior hx hb d_Ref_reached_118 ?_
      refine k_iast (j := (ix (ush t1.2.2.2.2.2.2.2.2 (2 : Int32)))) hx hb hK hP hD hS 3 2 rfl rfl rfl (ix_reach h2) d_Ref_reached_119 (fun H locs hP hD hS => ?_)
      have hP : va_P D kCl [(aT, .inr (11, [.ref bG, .ref bS, .ref bM, .int t1.2.2.2.1, .int rk, .int t1.2.2.2.2.1, .int t1.2.2.2.2.2.1, .int rc, .int rd, .int ra, .int rb, .int t1.2.2.2.2.2.2.1, .int t1.2.2.2.2.2.2.2.1, .int t1.2.2.2.2.2.2.2.2])), (bG, .inl (dG, 32, .inl rg)), (bS, .inl (dS, 48, .inl t1.2.1)), (bM, .inl (dM, 16384, .inl (upd t1.2.2.1 (ix (ush t1.2.2.2.2.2.2.2.2 (2 : Int32))) (((t1.2.2.1 (ix (ush t1.2.2.2.2.2.2.2.2 (2 : Int32)))) &&& ((shl (f_Ref_low p1) (f_Ref_above p1 t1.2.2.2.2.2.2.2.2)) ^^^ (-1 : Int32))) ||| (shl ((rg (ix rd)) &&& (f_Ref_low p1)) (f_Ref_above p1 t1.2.2.2.2.2.2.2.2))))))] H := hP
      have hD : va_D A [(aT, .inr (11, [.ref bG, .ref bS, .ref bM, .int t1.2.2.2.1, .int rk, .int t1.2.2.2.2.1, .int t1.2.2.2.2.2.1, .int rc, .int rd, .int ra, .int rb, .int t1.2.2.2.2.2.2.1, .int t1.2.2.2.2.2.2.2.1, .int t1.2.2.2.2.2.2.2.2])), (bG, .inl (dG, 32, .inl rg)), (bS, .inl (dS, 48, .inl t1.2.1)), (bM, .inl (dM, 16384, .inl (upd t1.2.2.1 (ix (ush t1.2.2.2.2.2.2.2.2 (2 : Int32))) (((t1.2.2.1 (ix (ush t1.2.2.2.2.2.2.2.2 (2 : Int32)))) &&& ((shl (f_Ref_low p1) (f_Ref_above p1 t1.2.2.2.2.2.2.2.2)) ^^^ (-1 : Int32))) ||| (shl ((rg (ix rd)) &&& (f_Ref_low p1)) (f_Ref_above p1 t1.2.2.2.2.2.2.2.2))))))] := hD
      refine lv_iconst (v := (1 : Int32)) hx hb d_Ref_reached_120 (by decide) ?_
      have ef : f_Ref_reached p0 p1 p2 p3 rg rs rm rl rr re rd rn rf rw = ((1 : Int32), rg, t1.2.1, (upd t1.2.2.1 (ix (ush t1.2.2.2.2.2.2.2.2 (2 : Int32))) (((t1.2.2.1 (ix (ush t1.2.2.2.2.2.2.2.2 (2 : Int32)))) &&& ((shl (f_Ref_low p1) (f_Ref_above p1 t1.2.2.2.2.2.2.2.2)) ^^^ (-1 : Int32))) ||| (shl ((rg (ix rd)) &&& (f_Ref_low p1)) (f_Ref_above p1 t1.2.2.2.2.2.2.2.2)))), t1.2.2.2.1, t1.2.2.2.2.1, t1.2.2.2.2.2.1, t1.2.2.2.2.2.2.1, t1.2.2.2.2.2.2.2.1, t1.2.2.2.2.2.2.2.2) := by unfold f_Ref_reached; try dsimp only; rw [if_neg h2, if_neg h6]
      exact k_zret hx hb hr hlocks hK hP hD hS [0, 1, 2, 3] rfl (by rw [ef] <;> rfl) (by rw [ef] <;> rfl) nb1 d_Ref_reached_121
    · refine lv_iload hx hb d_Ref_reached_37 (lv_at hl 1 rfl) ?_
      refine lv_iload hx hb d_Ref_reached_39 (lv_at hl 0 rfl) ?_
      refine lv_iushr (v := (ush (t1.2.2.1 (ix (ush t1.2.2.2.2.2.2.2.2 (2 : Int32)))) (f_Ref_above p1 t1.2.2.2.2.2.2.2.2))) hx hb d_Ref_reached_41 rfl ?_
      refine lv_iload_n hx hb d_Ref_reached_42 rfl (lv_at hl 4 rfl) ?_
      refine k_cSi (As := [.int p1]) (rest := [.int (ush (t1.2.2.1 (ix (ush t1.2.2.2.2.2.2.2.2 (2 : Int32)))) (f_Ref_above p1 t1.2.2.2.2.2.2.2.2))]) (wr := [(aT, .inr (11, [.ref bG, .ref bS, .ref bM, .int t1.2.2.2.1, .int rk, .int t1.2.2.2.2.1, .int t1.2.2.2.2.2.1, .int rc, .int rd, .int ra, .int rb, .int t1.2.2.2.2.2.2.1, .int t1.2.2.2.2.2.2.2.1, .int t1.2.2.2.2.2.2.2.2])), (bG, .inl (dG, 32, .inl rg)), (bS, .inl (dS, 48, .inl t1.2.1)), (bM, .inl (dM, 16384, .inl t1.2.2.1))]) (wj := [(aT, .inr (11, [.ref bG, .ref bS, .ref bM, .int t1.2.2.2.1, .int rk, .int t1.2.2.2.2.1, .int t1.2.2.2.2.2.1, .int rc, .int rd, .int ra, .int rb, .int t1.2.2.2.2.2.2.1, .int t1.2.2.2.2.2.2.2.1, .int t1.2.2.2.2.2.2.2.2])), (bG, .inl (dG, 32, .inl rg)), (bS, .inl (dS, 48, .inl t1.2.1)), (bM, .inl (dM, 16384, .inl t1.2.2.1))]) ⟨hx, hb, hml, hown, hB⟩ (c_Ref_low l D p1) yl_Ref_low mw_867 hK hN hP hD hS hA [] [] [0, 1, 2, 3] [0, 1, 2, 3] rfl rfl rfl rfl (by decide +kernel) rfl hl.1 rfl (Nat.le_of_ble_eq_true rfl) ⟨Nat.le_of_ble_eq_true rfl, Nat.le_of_ble_eq_true rfl⟩ d_Ref_reached_43 ⟨Nat.le_of_ble_eq_true rfl, Nat.le_of_ble_eq_true rfl⟩ (fun H locs hP hD hS => ?_)
      refine lv_iand hx hb d_Ref_reached_46 ?_
      refine lv_istore (lv' := [(7, .int ((ush (t1.2.2.1 (ix (ush t1.2.2.2.2.2.2.2.2 (2 : Int32)))) (f_Ref_above p1 t1.2.2.2.2.2.2.2.2)) &&& (f_Ref_low p1))), (6, .int (f_Ref_above p1 t1.2.2.2.2.2.2.2.2)), (5, .int (t1.2.2.1 (ix (ush t1.2.2.2.2.2.2.2.2 (2 : Int32))))), (0, .ref aT), (1, .int p0), (2, .int p1), (3, .int p2), (4, .int p3)]) hx hb d_Ref_reached_47 hl (by decide) rfl (fun ls hl => ?_)
      refine lv_aload_n hx hb d_Ref_reached_49 rfl (lv_at hl 3 rfl) ?_
      refine va_get (D := D) (ci := 11) (v := .ref bG) (C := "MappedProcessorModel") (T := T_Ref) (N := 14) hx hb hB iw_Ref hown hK hP 0 rfl rfl 0 (by decide) (hB _ mw_643) (fun _ h9 => h9) rfl d_Ref_reached_50 ?_
      refine lv_aload_n hx hb d_Ref_reached_53 rfl (lv_at hl 3 rfl) ?_
      refine va_get (D := D) (ci := 11) (v := .int rd) (C := "MappedProcessorModel") (T := T_Ref) (N := 14) hx hb hB iw_Ref hown hK hP 0 rfl rfl 8 (by decide) (hB _ mw_651) (fun _ h9 => h9) rfl d_Ref_reached_54 ?_
      refine lv_iload hx hb d_Ref_reached_57 (lv_at hl 7 rfl) ?_
      refine k_join2 (c0 := p3 = (0 : Int32)) (x1 := ((ush (t1.2.2.1 (ix (ush t1.2.2.2.2.2.2.2.2 (2 : Int32)))) (f_Ref_above p1 t1.2.2.2.2.2.2.2.2)) &&& (f_Ref_low p1))) (x2 := (shr (shl ((ush (t1.2.2.1 (ix (ush t1.2.2.2.2.2.2.2.2 (2 : Int32)))) (f_Ref_above p1 t1.2.2.2.2.2.2.2.2)) &&& (f_Ref_low p1)) (16 : Int32)) (16 : Int32))) (rest := [.int rd, .ref bG]) 75 ?_ (fun k8 k9 => ?_)
      rotate_left
      · refine lv_if_eq (tgt := 73) hx hb d_Ref_reached_59 (by decide) (fun (h7 : p3 = (0 : Int32)) => ?_) (fun (h7 : ¬ p3 = (0 : Int32)) => ?_)
        · refine lv_iload hx hb d_Ref_reached_73 (lv_at hl 0 rfl) ?_
          exact k8 h7
        · refine lv_iload hx hb d_Ref_reached_62 (lv_at hl 0 rfl) ?_
          refine lv_bipush (v := (16 : Int32)) hx hb d_Ref_reached_64 (by decide) ?_
          refine lv_ishl hx hb d_Ref_reached_66 ?_
          refine lv_bipush (v := (16 : Int32)) hx hb d_Ref_reached_67 (by decide) ?_
          refine lv_ishr hx hb d_Ref_reached_69 ?_
          refine lv_goto (tgt := 75) hx hb d_Ref_reached_70 (by decide) ?_
          exact k9 h7
      refine k_iast (j := (ix rd)) hx hb hK hP hD hS 1 0 rfl rfl rfl hrd d_Ref_reached_75 (fun H locs hP hD hS => ?_)
      have hP : va_P D kCl [(aT, .inr (11, [.ref bG, .ref bS, .ref bM, .int t1.2.2.2.1, .int rk, .int t1.2.2.2.2.1, .int t1.2.2.2.2.2.1, .int rc, .int rd, .int ra, .int rb, .int t1.2.2.2.2.2.2.1, .int t1.2.2.2.2.2.2.2.1, .int t1.2.2.2.2.2.2.2.2])), (bG, .inl (dG, 32, .inl (upd rg (ix rd) (if p3 = (0 : Int32) then ((ush (t1.2.2.1 (ix (ush t1.2.2.2.2.2.2.2.2 (2 : Int32)))) (f_Ref_above p1 t1.2.2.2.2.2.2.2.2)) &&& (f_Ref_low p1)) else (shr (shl ((ush (t1.2.2.1 (ix (ush t1.2.2.2.2.2.2.2.2 (2 : Int32)))) (f_Ref_above p1 t1.2.2.2.2.2.2.2.2)) &&& (f_Ref_low p1)) (16 : Int32)) (16 : Int32)))))), (bS, .inl (dS, 48, .inl t1.2.1)), (bM, .inl (dM, 16384, .inl t1.2.2.1))] H := hP
      have hD : va_D A [(aT, .inr (11, [.ref bG, .ref bS, .ref bM, .int t1.2.2.2.1, .int rk, .int t1.2.2.2.2.1, .int t1.2.2.2.2.2.1, .int rc, .int rd, .int ra, .int rb, .int t1.2.2.2.2.2.2.1, .int t1.2.2.2.2.2.2.2.1, .int t1.2.2.2.2.2.2.2.2])), (bG, .inl (dG, 32, .inl (upd rg (ix rd) (if p3 = (0 : Int32) then ((ush (t1.2.2.1 (ix (ush t1.2.2.2.2.2.2.2.2 (2 : Int32)))) (f_Ref_above p1 t1.2.2.2.2.2.2.2.2)) &&& (f_Ref_low p1)) else (shr (shl ((ush (t1.2.2.1 (ix (ush t1.2.2.2.2.2.2.2.2 (2 : Int32)))) (f_Ref_above p1 t1.2.2.2.2.2.2.2.2)) &&& (f_Ref_low p1)) (16 : Int32)) (16 : Int32)))))), (bS, .inl (dS, 48, .inl t1.2.1)), (bM, .inl (dM, 16384, .inl t1.2.2.1))] := hD
      refine lv_goto (tgt := 120) hx hb d_Ref_reached_76 (by decide) ?_
      refine lv_iconst (v := (1 : Int32)) hx hb d_Ref_reached_120 (by decide) ?_
      have ef : f_Ref_reached p0 p1 p2 p3 rg rs rm rl rr re rd rn rf rw = ((1 : Int32), (upd rg (ix rd) (if p3 = (0 : Int32) then ((ush (t1.2.2.1 (ix (ush t1.2.2.2.2.2.2.2.2 (2 : Int32)))) (f_Ref_above p1 t1.2.2.2.2.2.2.2.2)) &&& (f_Ref_low p1)) else (shr (shl ((ush (t1.2.2.1 (ix (ush t1.2.2.2.2.2.2.2.2 (2 : Int32)))) (f_Ref_above p1 t1.2.2.2.2.2.2.2.2)) &&& (f_Ref_low p1)) (16 : Int32)) (16 : Int32)))), t1.2.1, t1.2.2.1, t1.2.2.2.1, t1.2.2.2.2.1, t1.2.2.2.2.2.1, t1.2.2.2.2.2.2.1, t1.2.2.2.2.2.2.2.1, t1.2.2.2.2.2.2.2.2) := by unfold f_Ref_reached; try dsimp only; rw [if_neg h2, if_pos h6]
      exact k_zret hx hb hr hlocks hK hP hD hS [0, 1, 2, 3] rfl (by rw [ef] <;> rfl) (by rw [ef] <;> rfl) nb1 d_Ref_reached_121
  · refine lv_iconst (v := (0 : Int32)) hx hb d_Ref_reached_10 (by decide) ?_
    have ef : f_Ref_reached p0 p1 p2 p3 rg rs rm rl rr re rd rn rf rw = ((0 : Int32), rg, t1.2.1, t1.2.2.1, t1.2.2.2.1, t1.2.2.2.2.1, t1.2.2.2.2.2.1, t1.2.2.2.2.2.2.1, t1.2.2.2.2.2.2.2.1, t1.2.2.2.2.2.2.2.2) := by unfold f_Ref_reached; try dsimp only; rw [if_pos h2]
    exact k_zret hx hb hr hlocks hK hP hD hS [0, 1, 2, 3] rfl (by rw [ef] <;> rfl) (by rw [ef] <;> rfl) nb0 d_Ref_reached_11
/-! MappedProcessorModel.logic(I)Z -/
theorem d_Ref_logic_0 : decode b_Ref_logic 0 = .ok (.aload_n 0, 1) := by decide +kernel
theorem d_Ref_logic_1 : decode b_Ref_logic 1 = .ok (.getfield 7, 3) := by decide +kernel
theorem d_Ref_logic_4 : decode b_Ref_logic 4 = .ok (.aload_n 0, 1) := by decide +kernel
theorem d_Ref_logic_5 : decode b_Ref_logic 5 = .ok (.getfield 82, 3) := by decide +kernel
theorem d_Ref_logic_8 : decode b_Ref_logic 8 = .ok (.iaload, 1) := by decide +kernel
theorem d_Ref_logic_9 : decode b_Ref_logic 9 = .ok (.istore_n 2, 1) := by decide +kernel
theorem d_Ref_logic_10 : decode b_Ref_logic 10 = .ok (.aload_n 0, 1) := by decide +kernel
theorem d_Ref_logic_11 : decode b_Ref_logic 11 = .ok (.getfield 7, 3) := by decide +kernel
theorem d_Ref_logic_14 : decode b_Ref_logic 14 = .ok (.aload_n 0, 1) := by decide +kernel
theorem d_Ref_logic_15 : decode b_Ref_logic 15 = .ok (.getfield 88, 3) := by decide +kernel
theorem d_Ref_logic_18 : decode b_Ref_logic 18 = .ok (.iaload, 1) := by decide +kernel
theorem d_Ref_logic_19 : decode b_Ref_logic 19 = .ok (.istore_n 3, 1) := by decide +kernel
theorem d_Ref_logic_20 : decode b_Ref_logic 20 = .ok (.iload_n 1, 1) := by decide +kernel
theorem d_Ref_logic_21 : decode b_Ref_logic 21 = .ok (.bipush 28, 2) := by decide +kernel
theorem d_Ref_logic_23 : decode b_Ref_logic 23 = .ok (.if_icmp .eq 38, 3) := by decide +kernel
theorem d_Ref_logic_26 : decode b_Ref_logic 26 = .ok (.iload_n 1, 1) := by decide +kernel
theorem d_Ref_logic_27 : decode b_Ref_logic 27 = .ok (.sipush 444, 3) := by decide +kernel
theorem d_Ref_logic_30 : decode b_Ref_logic 30 = .ok (.if_icmp .eq 31, 3) := by decide +kernel
theorem d_Ref_logic_33 : decode b_Ref_logic 33 = .ok (.iload_n 1, 1) := by decide +kernel
theorem d_Ref_logic_34 : decode b_Ref_logic 34 = .ok (.sipush 316, 3) := by decide +kernel
theorem d_Ref_logic_37 : decode b_Ref_logic 37 = .ok (.if_icmp .eq 24, 3) := by decide +kernel
theorem d_Ref_logic_40 : decode b_Ref_logic 40 = .ok (.iload_n 1, 1) := by decide +kernel
theorem d_Ref_logic_41 : decode b_Ref_logic 41 = .ok (.bipush 60, 2) := by decide +kernel
theorem d_Ref_logic_43 : decode b_Ref_logic 43 = .ok (.if_icmp .eq 18, 3) := by decide +kernel
theorem d_Ref_logic_46 : decode b_Ref_logic 46 = .ok (.iload_n 1, 1) := by decide +kernel
theorem d_Ref_logic_47 : decode b_Ref_logic 47 = .ok (.bipush 124, 2) := by decide +kernel
theorem d_Ref_logic_49 : decode b_Ref_logic 49 = .ok (.if_icmp .eq 12, 3) := by decide +kernel
theorem d_Ref_logic_52 : decode b_Ref_logic 52 = .ok (.iload_n 1, 1) := by decide +kernel
theorem d_Ref_logic_53 : decode b_Ref_logic 53 = .ok (.sipush 476, 3) := by decide +kernel
theorem d_Ref_logic_56 : decode b_Ref_logic 56 = .ok (.if_icmp .eq 5, 3) := by decide +kernel
theorem d_Ref_logic_59 : decode b_Ref_logic 59 = .ok (.iconst 0, 1) := by decide +kernel
theorem d_Ref_logic_60 : decode b_Ref_logic 60 = .ok (.ireturn, 1) := by decide +kernel
theorem d_Ref_logic_61 : decode b_Ref_logic 61 = .ok (.iload_n 1, 1) := by decide +kernel
theorem d_Ref_logic_62 : decode b_Ref_logic 62 = .ok (.bipush 28, 2) := by decide +kernel
theorem d_Ref_logic_64 : decode b_Ref_logic 64 = .ok (.if_icmp .ne 9, 3) := by decide +kernel
theorem d_Ref_logic_67 : decode b_Ref_logic 67 = .ok (.iload_n 2, 1) := by decide +kernel
theorem d_Ref_logic_68 : decode b_Ref_logic 68 = .ok (.iload_n 3, 1) := by decide +kernel
theorem d_Ref_logic_69 : decode b_Ref_logic 69 = .ok (.iand, 1) := by decide +kernel
theorem d_Ref_logic_70 : decode b_Ref_logic 70 = .ok (.goto 62, 3) := by decide +kernel
theorem d_Ref_logic_73 : decode b_Ref_logic 73 = .ok (.iload_n 1, 1) := by decide +kernel
theorem d_Ref_logic_74 : decode b_Ref_logic 74 = .ok (.sipush 444, 3) := by decide +kernel
theorem d_Ref_logic_77 : decode b_Ref_logic 77 = .ok (.if_icmp .ne 9, 3) := by decide +kernel
theorem d_Ref_logic_80 : decode b_Ref_logic 80 = .ok (.iload_n 2, 1) := by decide +kernel
theorem d_Ref_logic_81 : decode b_Ref_logic 81 = .ok (.iload_n 3, 1) := by decide +kernel
theorem d_Ref_logic_82 : decode b_Ref_logic 82 = .ok (.ior, 1) := by decide +kernel
theorem d_Ref_logic_83 : decode b_Ref_logic 83 = .ok (.goto 49, 3) := by decide +kernel
theorem d_Ref_logic_86 : decode b_Ref_logic 86 = .ok (.iload_n 1, 1) := by decide +kernel
theorem d_Ref_logic_87 : decode b_Ref_logic 87 = .ok (.sipush 316, 3) := by decide +kernel
theorem d_Ref_logic_90 : decode b_Ref_logic 90 = .ok (.if_icmp .ne 9, 3) := by decide +kernel
theorem d_Ref_logic_93 : decode b_Ref_logic 93 = .ok (.iload_n 2, 1) := by decide +kernel
theorem d_Ref_logic_94 : decode b_Ref_logic 94 = .ok (.iload_n 3, 1) := by decide +kernel
theorem d_Ref_logic_95 : decode b_Ref_logic 95 = .ok (.ixor, 1) := by decide +kernel
theorem d_Ref_logic_96 : decode b_Ref_logic 96 = .ok (.goto 36, 3) := by decide +kernel
theorem d_Ref_logic_99 : decode b_Ref_logic 99 = .ok (.iload_n 1, 1) := by decide +kernel
theorem d_Ref_logic_100 : decode b_Ref_logic 100 = .ok (.bipush 60, 2) := by decide +kernel
theorem d_Ref_logic_102 : decode b_Ref_logic 102 = .ok (.if_icmp .ne 11, 3) := by decide +kernel
theorem d_Ref_logic_105 : decode b_Ref_logic 105 = .ok (.iload_n 2, 1) := by decide +kernel
theorem d_Ref_logic_106 : decode b_Ref_logic 106 = .ok (.iload_n 3, 1) := by decide +kernel
theorem d_Ref_logic_107 : decode b_Ref_logic 107 = .ok (.iconst (-1), 1) := by decide +kernel
theorem d_Ref_logic_108 : decode b_Ref_logic 108 = .ok (.ixor, 1) := by decide +kernel
theorem d_Ref_logic_109 : decode b_Ref_logic 109 = .ok (.iand, 1) := by decide +kernel
theorem d_Ref_logic_110 : decode b_Ref_logic 110 = .ok (.goto 22, 3) := by decide +kernel
theorem d_Ref_logic_113 : decode b_Ref_logic 113 = .ok (.iload_n 1, 1) := by decide +kernel
theorem d_Ref_logic_114 : decode b_Ref_logic 114 = .ok (.bipush 124, 2) := by decide +kernel
theorem d_Ref_logic_116 : decode b_Ref_logic 116 = .ok (.if_icmp .ne 11, 3) := by decide +kernel
theorem d_Ref_logic_119 : decode b_Ref_logic 119 = .ok (.iload_n 2, 1) := by decide +kernel
theorem d_Ref_logic_120 : decode b_Ref_logic 120 = .ok (.iload_n 3, 1) := by decide +kernel
theorem d_Ref_logic_121 : decode b_Ref_logic 121 = .ok (.ior, 1) := by decide +kernel
theorem d_Ref_logic_122 : decode b_Ref_logic 122 = .ok (.iconst (-1), 1) := by decide +kernel
theorem d_Ref_logic_123 : decode b_Ref_logic 123 = .ok (.ixor, 1) := by decide +kernel
theorem d_Ref_logic_124 : decode b_Ref_logic 124 = .ok (.goto 8, 3) := by decide +kernel
theorem d_Ref_logic_127 : decode b_Ref_logic 127 = .ok (.iload_n 2, 1) := by decide +kernel
theorem d_Ref_logic_128 : decode b_Ref_logic 128 = .ok (.iload_n 3, 1) := by decide +kernel
theorem d_Ref_logic_129 : decode b_Ref_logic 129 = .ok (.iand, 1) := by decide +kernel
theorem d_Ref_logic_130 : decode b_Ref_logic 130 = .ok (.iconst (-1), 1) := by decide +kernel
theorem d_Ref_logic_131 : decode b_Ref_logic 131 = .ok (.ixor, 1) := by decide +kernel
theorem d_Ref_logic_132 : decode b_Ref_logic 132 = .ok (.istore 4, 2) := by decide +kernel
theorem d_Ref_logic_134 : decode b_Ref_logic 134 = .ok (.aload_n 0, 1) := by decide +kernel
theorem d_Ref_logic_135 : decode b_Ref_logic 135 = .ok (.aload_n 0, 1) := by decide +kernel
theorem d_Ref_logic_136 : decode b_Ref_logic 136 = .ok (.getfield 85, 3) := by decide +kernel
theorem d_Ref_logic_139 : decode b_Ref_logic 139 = .ok (.iload 4, 2) := by decide +kernel
theorem d_Ref_logic_141 : decode b_Ref_logic 141 = .ok (.invokevirtual 175, 3) := by decide +kernel
theorem d_Ref_logic_144 : decode b_Ref_logic 144 = .ok (.iconst 1, 1) := by decide +kernel
theorem d_Ref_logic_145 : decode b_Ref_logic 145 = .ok (.ireturn, 1) := by decide +kernel
def f_Ref_logic (p0 : Int32) (rg : Nat → Int32) (rs : Nat → Int32) (rc : Int32) (rd : Int32) (ra : Int32) (rb : Int32) : Int32 × (Nat → Int32) × (Nat → Int32) :=
  if p0 = (28 : Int32) then
    let t3 := (f_Ref_result ra ((rg (ix rd)) &&& (rg (ix rb))) rg rs rc)
    ((1 : Int32), t3.1, t3.2)
  else
    if p0 = (444 : Int32) then
      let t7 := (f_Ref_result ra ((rg (ix rd)) ||| (rg (ix rb))) rg rs rc)
      ((1 : Int32), t7.1, t7.2)
    else
      if p0 = (316 : Int32) then
        let t12 := (f_Ref_result ra ((rg (ix rd)) ^^^ (rg (ix rb))) rg rs rc)
        ((1 : Int32), t12.1, t12.2)
      else
        if p0 = (60 : Int32) then
          let t18 := (f_Ref_result ra ((rg (ix rd)) &&& ((rg (ix rb)) ^^^ (-1 : Int32))) rg rs rc)
          ((1 : Int32), t18.1, t18.2)
        else
          if p0 = (124 : Int32) then
            let t25 := (f_Ref_result ra (((rg (ix rd)) ||| (rg (ix rb))) ^^^ (-1 : Int32)) rg rs rc)
            ((1 : Int32), t25.1, t25.2)
          else
            if p0 = (476 : Int32) then
              let t32 := (f_Ref_result ra (((rg (ix rd)) &&& (rg (ix rb))) ^^^ (-1 : Int32)) rg rs rc)
              ((1 : Int32), t32.1, t32.2)
            else
              ((0 : Int32), rg, rs)
set_option maxHeartbeats 4000000 in
set_option maxRecDepth 100000 in
theorem ib_Ref_logic (p0 : Int32) (rg : Nat → Int32) (rs : Nat → Int32) (rc : Int32) (rd : Int32) (ra : Int32) (rb : Int32) : isB (f_Ref_logic p0 rg rs rc rd ra rb).1 := by
  unfold f_Ref_logic
  try dsimp only
  repeat' (first | refine ib_ite ?_ ?_ | refine ib_ite0 ?_ ?_ | with_reducible exact ib0 | with_reducible exact ib1 | (dsimp only; first | exact ib0 | exact ib1))
theorem nb_Ref_logic (p0 : Int32) (rg : Nat → Int32) (rs : Nat → Int32) (rc : Int32) (rd : Int32) (ra : Int32) (rb : Int32) : narrow .boolean (.int (f_Ref_logic p0 rg rs rc rd ra rb).1) = .int (f_Ref_logic p0 rg rs rc rd ra rb).1 := nb_of (ib_Ref_logic p0 rg rs rc rd ra rb)
set_option maxHeartbeats 4000000 in
set_option maxRecDepth 100000 in
theorem c_Ref_logic (l : Launch) (D : va_G) (aT bG bS bM : Nat) (dG dS dM : ClassId) (rg : Nat → Int32) (rs : Nat → Int32) (rm : Nat → Int32) (rl : Int32) (rk : Int32) (rr : Int32) (re : Int32) (rc : Int32) (rd : Int32) (ra : Int32) (rb : Int32) (rn : Int32) (rf : Int32) (rw : Int32) (p0 : Int32) (hra : vp_in ra 32) (hrd : vp_in rd 32) (hrb : vp_in rb 32) : kMi l y_Ref_logic b_Ref_logic 5 (some .boolean) 4 92 D kCl [(dG, .int), (dS, .int), (dM, .int)] [.ref aT, .int p0] [(aT, .inr (11, [.ref bG, .ref bS, .ref bM, .int rl, .int rk, .int rr, .int re, .int rc, .int rd, .int ra, .int rb, .int rn, .int rf, .int rw])), (bG, .inl (dG, 32, .inl rg)), (bS, .inl (dS, 48, .inl rs)), (bM, .inl (dM, 16384, .inl rm))] (f_Ref_logic p0 rg rs rc rd ra rb).1 [(aT, .inr (11, [.ref bG, .ref bS, .ref bM, .int rl, .int rk, .int rr, .int re, .int rc, .int rd, .int ra, .int rb, .int rn, .int rf, .int rw])), (bG, .inl (dG, 32, .inl (f_Ref_logic p0 rg rs rc rd ra rb).2.1)), (bS, .inl (dS, 48, .inl (f_Ref_logic p0 rg rs rc rd ra rb).2.2)), (bM, .inl (dM, 16384, .inl rm))] := by
  refine k_entry (Qc := fun A => kQi D kCl [(dG, .int), (dS, .int), (dM, .int)] (f_Ref_logic p0 rg rs rc rd ra rb).1 [(aT, .inr (11, [.ref bG, .ref bS, .ref bM, .int rl, .int rk, .int rr, .int re, .int rc, .int rd, .int ra, .int rb, .int rn, .int rf, .int rw])), (bG, .inl (dG, 32, .inl (f_Ref_logic p0 rg rs rc rd ra rb).2.1)), (bS, .inl (dS, 48, .inl (f_Ref_logic p0 rg rs rc rd ra rb).2.2)), (bM, .inl (dM, 16384, .inl rm))] A) (lv := [(0, .ref aT), (1, .int p0)]) (by decide) (Nat.le_of_ble_eq_true rfl) rfl ?_
  intro p e s m below meth c A ls hx hb hr hml hB hown hlocks hin hA hK hN hP hD hS hl
  have hown : s.vm.findClass "MappedProcessorModel" = some m.cls := hown
  refine lv_aload_n hx hb d_Ref_logic_0 rfl (lv_at hl 0 rfl) ?_
  refine va_get (D := D) (ci := 11) (v := .ref bG) (C := "MappedProcessorModel") (T := T_Ref) (N := 14) hx hb hB iw_Ref hown hK hP 0 rfl rfl 0 (by decide) (hB _ mw_643) (fun _ h9 => h9) rfl d_Ref_logic_1 ?_
  refine lv_aload_n hx hb d_Ref_logic_4 rfl (lv_at hl 0 rfl) ?_
  refine va_get (D := D) (ci := 11) (v := .int rd) (C := "MappedProcessorModel") (T := T_Ref) (N := 14) hx hb hB iw_Ref hown hK hP 0 rfl rfl 8 (by decide) (hB _ mw_651) (fun _ h9 => h9) rfl d_Ref_logic_5 ?_
  refine k_iald (j := (ix rd)) hx hb hK hP 1 0 rfl rfl rfl hrd d_Ref_logic_8 ?_
  refine lv_istore_n (lv' := [(2, .int (rg (ix rd))), (0, .ref aT), (1, .int p0)]) hx hb d_Ref_logic_9 rfl hl (by decide) rfl (fun ls hl => ?_)
  refine lv_aload_n hx hb d_Ref_logic_10 rfl (lv_at hl 1 rfl) ?_
  refine va_get (D := D) (ci := 11) (v := .ref bG) (C := "MappedProcessorModel") (T := T_Ref) (N := 14) hx hb hB iw_Ref hown hK hP 0 rfl rfl 0 (by decide) (hB _ mw_643) (fun _ h9 => h9) rfl d_Ref_logic_11 ?_
  refine lv_aload_n hx hb d_Ref_logic_14 rfl (lv_at hl 1 rfl) ?_
  refine va_get (D := D) (ci := 11) (v := .int rb) (C := "MappedProcessorModel") (T := T_Ref) (N := 14) hx hb hB iw_Ref hown hK hP 0 rfl rfl 10 (by decide) (hB _ mw_653) (fun _ h9 => h9) rfl d_Ref_logic_15 ?_
  refine k_iald (j := (ix rb)) hx hb hK hP 1 0 rfl rfl rfl hrb d_Ref_logic_18 ?_
  refine lv_istore_n (lv' := [(3, .int (rg (ix rb))), (2, .int (rg (ix rd))), (0, .ref aT), (1, .int p0)]) hx hb d_Ref_logic_19 rfl hl (by decide) rfl (fun ls hl => ?_)
  refine lv_iload_n hx hb d_Ref_logic_20 rfl (lv_at hl 3 rfl) ?_
  refine lv_bipush (v := (28 : Int32)) hx hb d_Ref_logic_21 (by decide) ?_
  refine lv_icmp_eq (tgt := 61) hx hb d_Ref_logic_23 (by decide) (fun (h1 : p0 = (28 : Int32)) => ?_) (fun (h1 : ¬ p0 = (28 : Int32)) => ?_)
  · refine lv_iload_n hx hb d_Ref_logic_61 rfl (lv_at hl 3 rfl) ?_
    refine lv_bipush (v := (28 : Int32)) hx hb d_Ref_logic_62 (by decide) ?_
    refine lv_icmp_ne (tgt := 73) hx hb d_Ref_logic_64 (by decide) (fun (h2 : ¬ p0 = (28 : Int32)) => ?_) (fun (h2 : p0 = (28 : Int32)) => ?_)
    · exact absurd h1 h2
    refine lv_iload_n hx hb d_Ref_logic_67 rfl (lv_at hl 1 rfl) ?_
    refine lv_iload_n hx hb d_Ref_logic_68 rfl (lv_at hl 0 rfl) ?_
    refine lv_iand hx hb d_Ref_logic_69 ?_
    refine lv_goto (tgt := 132) hx hb d_Ref_logic_70 (by decide) ?_
    refine lv_istore (lv' := [(4, .int ((rg (ix rd)) &&& (rg (ix rb)))), (3, .int (rg (ix rb))), (2, .int (rg (ix rd))), (0, .ref aT), (1, .int p0)]) hx hb d_Ref_logic_132 hl (by decide) rfl (fun ls hl => ?_)
    refine lv_aload_n hx hb d_Ref_logic_134 rfl (lv_at hl 3 rfl) ?_
    refine lv_aload_n hx hb d_Ref_logic_135 rfl (lv_at hl 3 rfl) ?_
    refine va_get (D := D) (ci := 11) (v := .int ra) (C := "MappedProcessorModel") (T := T_Ref) (N := 14) hx hb hB iw_Ref hown hK hP 0 rfl rfl 9 (by decide) (hB _ mw_652) (fun _ h9 => h9) rfl d_Ref_logic_136 ?_
    refine lv_iload hx hb d_Ref_logic_139 (lv_at hl 0 rfl) ?_
    let t3 := (f_Ref_result ra ((rg (ix rd)) &&& (rg (ix rb))) rg rs rc)
    refine k_cVv (As := [.int ra, .int ((rg (ix rd)) &&& (rg (ix rb)))]) (rest := []) (wr := []) (wj := [(aT, .inr (11, [.ref bG, .ref bS, .ref bM, .int rl, .int rk, .int rr, .int re, .int rc, .int rd, .int ra, .int rb, .int rn, .int rf, .int rw])), (bG, .inl (dG, 32, .inl t3.1)), (bS, .inl (dS, 48, .inl t3.2)), (bM, .inl (dM, 16384, .inl rm))]) ⟨hx, hb, hml, hown, hB⟩ (c_Ref_result l D aT bG bS bM dG dS dM rg rs rm rl rk rr re rc rd ra rb rn rf rw ra ((rg (ix rd)) &&& (rg (ix rb))) hra) yl_Ref_result mw_842 hK hN hP hD hS hA [0, 1, 2] [0, 1, 2, 3] [] [0, 1, 2, 3] rfl rfl rfl rfl (by decide +kernel) 0 rfl rfl rfl rfl hl.1 rfl (Nat.le_of_ble_eq_true rfl) ⟨Nat.le_of_ble_eq_true rfl, Nat.le_of_ble_eq_true rfl⟩ d_Ref_logic_141 ⟨Nat.le_of_ble_eq_true rfl, Nat.le_of_ble_eq_true rfl⟩ (fun H locs hP hD hS => ?_)
    refine lv_iconst (v := (1 : Int32)) hx hb d_Ref_logic_144 (by decide) ?_
    have ef : f_Ref_logic p0 rg rs rc rd ra rb = ((1 : Int32), t3.1, t3.2) := by unfold f_Ref_logic; try dsimp only; rw [if_pos h1]
    exact k_zret hx hb hr hlocks hK hP hD hS [0, 1, 2, 3] rfl (by rw [ef] <;> rfl) (by rw [ef] <;> rfl) nb1 d_Ref_logic_145
  · refine lv_iload_n hx hb d_Ref_logic_26 rfl (lv_at hl 3 rfl) ?_
    refine lv_sipush (v := (444 : Int32)) hx hb d_Ref_logic_27 (by decide) ?_
    refine lv_icmp_eq (tgt := 61) hx hb d_Ref_logic_30 (by decide) (fun (h4 : p0 = (444 : Int32)) => ?_) (fun (h4 : ¬ p0 = (444 : Int32)) => ?_)
    · refine lv_iload_n hx hb d_Ref_logic_61 rfl (lv_at hl 3 rfl) ?_
      refine lv_bipush (v := (28 : Int32)) hx hb d_Ref_logic_62 (by decide) ?_
      refine lv_icmp_ne (tgt := 73) hx hb d_Ref_logic_64 (by decide) (fun (h5 : ¬ p0 = (28 : Int32)) => ?_) (fun (h5 : p0 = (28 : Int32)) => ?_)
      rotate_left
      · exact absurd h5 h1
      refine lv_iload_n hx hb d_Ref_logic_73 rfl (lv_at hl 3 rfl) ?_
      refine lv_sipush (v := (444 : Int32)) hx hb d_Ref_logic_74 (by decide) ?_
      refine lv_icmp_ne (tgt := 86) hx hb d_Ref_logic_77 (by decide) (fun (h6 : ¬ p0 = (444 : Int32)) => ?_) (fun (h6 : p0 = (444 : Int32)) => ?_)
      · exact absurd h4 h6
      refine lv_iload_n hx hb d_Ref_logic_80 rfl (lv_at hl 1 rfl) ?_
      refine lv_iload_n hx hb d_Ref_logic_81 rfl (lv_at hl 0 rfl) ?_
      refine lv_ior hx hb d_Ref_logic_82 ?_
      refine lv_goto (tgt := 132) hx hb d_Ref_logic_83 (by decide) ?_
      refine lv_istore (lv' := [(4, .int ((rg (ix rd)) ||| (rg (ix rb)))), (3, .int (rg (ix rb))), (2, .int (rg (ix rd))), (0, .ref aT), (1, .int p0)]) hx hb d_Ref_logic_132 hl (by decide) rfl (fun ls hl => ?_)
      refine lv_aload_n hx hb d_Ref_logic_134 rfl (lv_at hl 3 rfl) ?_
      refine lv_aload_n hx hb d_Ref_logic_135 rfl (lv_at hl 3 rfl) ?_
      refine va_get (D := D) (ci := 11) (v := .int ra) (C := "MappedProcessorModel") (T := T_Ref) (N := 14) hx hb hB iw_Ref hown hK hP 0 rfl rfl 9 (by decide) (hB _ mw_652) (fun _ h9 => h9) rfl d_Ref_logic_136 ?_
      refine lv_iload hx hb d_Ref_logic_139 (lv_at hl 0 rfl) ?_
      let t7 := (f_Ref_result ra ((rg (ix rd)) ||| (rg (ix rb))) rg rs rc)
      refine k_cVv (As := [.int ra, .int ((rg (ix rd)) ||| (rg (ix rb)))]) (rest := []) (wr := []) (wj := [(aT, .inr (11, [.ref bG, .ref bS, .ref bM, .int rl, .int rk, .int rr, .int re, .int rc, .int rd, .int ra, .int rb, .int rn, .int rf, .int rw])), (bG, .inl (dG, 32, .inl t7.1)), (bS, .inl (dS, 48, .inl t7.2)), (bM, .inl (dM, 16384, .inl rm))]) ⟨hx, hb, hml, hown, hB⟩ (c_Ref_result l D aT bG bS bM dG dS dM rg rs rm rl rk rr re rc rd ra rb rn rf rw ra ((rg (ix rd)) ||| (rg (ix rb))) hra) yl_Ref_result mw_842 hK hN hP hD hS hA [0, 1, 2] [0, 1, 2, 3] [] [0, 1, 2, 3] rfl rfl rfl rfl (by decide +kernel) 0 rfl rfl rfl rfl hl.1 rfl (Nat.le_of_ble_eq_true rfl) ⟨Nat.le_of_ble_eq_true rfl, Nat.le_of_ble_eq_true rfl⟩ d_Ref_logic_141 ⟨Nat.le_of_ble_eq_true rfl, Nat.le_of_ble_eq_true rfl⟩ (fun H locs hP hD hS => ?_)
      refine lv_iconst (v := (1 : Int32)) hx hb d_Ref_logic_144 (by decide) ?_
      have ef : f_Ref_logic p0 rg rs rc rd ra rb = ((1 : Int32), t7.1, t7.2) := by unfold f_Ref_logic; try dsimp only; rw [if_neg h1, if_pos h4]
      exact k_zret hx hb hr hlocks hK hP hD hS [0, 1, 2, 3] rfl (by rw [ef] <;> rfl) (by rw [ef] <;> rfl) nb1 d_Ref_logic_145
    · refine lv_iload_n hx hb d_Ref_logic_33 rfl (lv_at hl 3 rfl) ?_
      refine lv_sipush (v := (316 : Int32)) hx hb d_Ref_logic_34 (by decide) ?_
      refine lv_icmp_eq (tgt := 61) hx hb d_Ref_logic_37 (by decide) (fun (h8 : p0 = (316 : Int32)) => ?_) (fun (h8 : ¬ p0 = (316 : Int32)) => ?_)
      · refine lv_iload_n hx hb d_Ref_logic_61 rfl (lv_at hl 3 rfl) ?_
        refine lv_bipush (v := (28 : Int32)) hx hb d_Ref_logic_62 (by decide) ?_
        refine lv_icmp_ne (tgt := 73) hx hb d_Ref_logic_64 (by decide) (fun (h9 : ¬ p0 = (28 : Int32)) => ?_) (fun (h9 : p0 = (28 : Int32)) => ?_)
        rotate_left
        · exact absurd h9 h1
        refine lv_iload_n hx hb d_Ref_logic_73 rfl (lv_at hl 3 rfl) ?_
        refine lv_sipush (v := (444 : Int32)) hx hb d_Ref_logic_74 (by decide) ?_
        refine lv_icmp_ne (tgt := 86) hx hb d_Ref_logic_77 (by decide) (fun (h10 : ¬ p0 = (444 : Int32)) => ?_) (fun (h10 : p0 = (444 : Int32)) => ?_)
        rotate_left
        · exact absurd h10 h4
        refine lv_iload_n hx hb d_Ref_logic_86 rfl (lv_at hl 3 rfl) ?_
        refine lv_sipush (v := (316 : Int32)) hx hb d_Ref_logic_87 (by decide) ?_
        refine lv_icmp_ne (tgt := 99) hx hb d_Ref_logic_90 (by decide) (fun (h11 : ¬ p0 = (316 : Int32)) => ?_) (fun (h11 : p0 = (316 : Int32)) => ?_)
        · exact absurd h8 h11
        refine lv_iload_n hx hb d_Ref_logic_93 rfl (lv_at hl 1 rfl) ?_
        refine lv_iload_n hx hb d_Ref_logic_94 rfl (lv_at hl 0 rfl) ?_
        refine lv_ixor hx hb d_Ref_logic_95 ?_
        refine lv_goto (tgt := 132) hx hb d_Ref_logic_96 (by decide) ?_
        refine lv_istore (lv' := [(4, .int ((rg (ix rd)) ^^^ (rg (ix rb)))), (3, .int (rg (ix rb))), (2, .int (rg (ix rd))), (0, .ref aT), (1, .int p0)]) hx hb d_Ref_logic_132 hl (by decide) rfl (fun ls hl => ?_)
        refine lv_aload_n hx hb d_Ref_logic_134 rfl (lv_at hl 3 rfl) ?_
        refine lv_aload_n hx hb d_Ref_logic_135 rfl (lv_at hl 3 rfl) ?_
        refine va_get (D := D) (ci := 11) (v := .int ra) (C := "MappedProcessorModel") (T := T_Ref) (N := 14) hx hb hB iw_Ref hown hK hP 0 rfl rfl 9 (by decide) (hB _ mw_652) (fun _ h9 => h9) rfl d_Ref_logic_136 ?_
        refine lv_iload hx hb d_Ref_logic_139 (lv_at hl 0 rfl) ?_
        let t12 := (f_Ref_result ra ((rg (ix rd)) ^^^ (rg (ix rb))) rg rs rc)
        refine k_cVv (As := [.int ra, .int ((rg (ix rd)) ^^^ (rg (ix rb)))]) (rest := []) (wr := []) (wj := [(aT, .inr (11, [.ref bG, .ref bS, .ref bM, .int rl, .int rk, .int rr, .int re, .int rc, .int rd, .int ra, .int rb, .int rn, .int rf, .int rw])), (bG, .inl (dG, 32, .inl t12.1)), (bS, .inl (dS, 48, .inl t12.2)), (bM, .inl (dM, 16384, .inl rm))]) ⟨hx, hb, hml, hown, hB⟩ (c_Ref_result l D aT bG bS bM dG dS dM rg rs rm rl rk rr re rc rd ra rb rn rf rw ra ((rg (ix rd)) ^^^ (rg (ix rb))) hra) yl_Ref_result mw_842 hK hN hP hD hS hA [0, 1, 2] [0, 1, 2, 3] [] [0, 1, 2, 3] rfl rfl rfl rfl (by decide +kernel) 0 rfl rfl rfl rfl hl.1 rfl (Nat.le_of_ble_eq_true rfl) ⟨Nat.le_of_ble_eq_true rfl, Nat.le_of_ble_eq_true rfl⟩ d_Ref_logic_141 ⟨Nat.le_of_ble_eq_true rfl, Nat.le_of_ble_eq_true rfl⟩ (fun H locs hP hD hS => ?_)
        refine lv_iconst (v := (1 : Int32)) hx hb d_Ref_logic_144 (by decide) ?_
        have ef : f_Ref_logic p0 rg rs rc rd ra rb = ((1 : Int32), t12.1, t12.2) := by unfold f_Ref_logic; try dsimp only; rw [if_neg h1, if_neg h4, if_pos h8]
        exact k_zret hx hb hr hlocks hK hP hD hS [0, 1, 2, 3] rfl (by rw [ef] <;> rfl) (by rw [ef] <;> rfl) nb1 d_Ref_logic_145
      · refine lv_iload_n hx hb d_Ref_logic_40 rfl (lv_at hl 3 rfl) ?_
        refine lv_bipush (v := (60 : Int32)) hx hb d_Ref_logic_41 (by decide) ?_
        refine lv_icmp_eq (tgt := 61) hx hb d_Ref_logic_43 (by decide) (fun (h13 : p0 = (60 : Int32)) => ?_) (fun (h13 : ¬ p0 = (60 : Int32)) => ?_)
        · refine lv_iload_n hx hb d_Ref_logic_61 rfl (lv_at hl 3 rfl) ?_
          refine lv_bipush (v := (28 : Int32)) hx hb d_Ref_logic_62 (by decide) ?_
          refine lv_icmp_ne (tgt := 73) hx hb d_Ref_logic_64 (by decide) (fun (h14 : ¬ p0 = (28 : Int32)) => ?_) (fun (h14 : p0 = (28 : Int32)) => ?_)
          rotate_left
          · exact absurd h14 h1
          refine lv_iload_n hx hb d_Ref_logic_73 rfl (lv_at hl 3 rfl) ?_
          refine lv_sipush (v := (444 : Int32)) hx hb d_Ref_logic_74 (by decide) ?_
          refine lv_icmp_ne (tgt := 86) hx hb d_Ref_logic_77 (by decide) (fun (h15 : ¬ p0 = (444 : Int32)) => ?_) (fun (h15 : p0 = (444 : Int32)) => ?_)
          rotate_left
          · exact absurd h15 h4
          refine lv_iload_n hx hb d_Ref_logic_86 rfl (lv_at hl 3 rfl) ?_
          refine lv_sipush (v := (316 : Int32)) hx hb d_Ref_logic_87 (by decide) ?_
          refine lv_icmp_ne (tgt := 99) hx hb d_Ref_logic_90 (by decide) (fun (h16 : ¬ p0 = (316 : Int32)) => ?_) (fun (h16 : p0 = (316 : Int32)) => ?_)
          rotate_left
          · exact absurd h16 h8
          refine lv_iload_n hx hb d_Ref_logic_99 rfl (lv_at hl 3 rfl) ?_
          refine lv_bipush (v := (60 : Int32)) hx hb d_Ref_logic_100 (by decide) ?_
          refine lv_icmp_ne (tgt := 113) hx hb d_Ref_logic_102 (by decide) (fun (h17 : ¬ p0 = (60 : Int32)) => ?_) (fun (h17 : p0 = (60 : Int32)) => ?_)
          · exact absurd h13 h17
          refine lv_iload_n hx hb d_Ref_logic_105 rfl (lv_at hl 1 rfl) ?_
          refine lv_iload_n hx hb d_Ref_logic_106 rfl (lv_at hl 0 rfl) ?_
          refine lv_iconst (v := (-1 : Int32)) hx hb d_Ref_logic_107 (by decide) ?_
          refine lv_ixor hx hb d_Ref_logic_108 ?_
          refine lv_iand hx hb d_Ref_logic_109 ?_
          refine lv_goto (tgt := 132) hx hb d_Ref_logic_110 (by decide) ?_
          refine lv_istore (lv' := [(4, .int ((rg (ix rd)) &&& ((rg (ix rb)) ^^^ (-1 : Int32)))), (3, .int (rg (ix rb))), (2, .int (rg (ix rd))), (0, .ref aT), (1, .int p0)]) hx hb d_Ref_logic_132 hl (by decide) rfl (fun ls hl => ?_)
          refine lv_aload_n hx hb d_Ref_logic_134 rfl (lv_at hl 3 rfl) ?_
          refine lv_aload_n hx hb d_Ref_logic_135 rfl (lv_at hl 3 rfl) ?_
          refine va_get (D := D) (ci := 11) (v := .int ra) (C := "MappedProcessorModel") (T := T_Ref) (N := 14) hx hb hB iw_Ref hown hK hP 0 rfl rfl 9 (by decide) (hB _ mw_652) (fun _ h9 => h9) rfl d_Ref_logic_136 ?_
          refine lv_iload hx hb d_Ref_logic_139 (lv_at hl 0 rfl) ?_
          let t18 := (f_Ref_result ra ((rg (ix rd)) &&& ((rg (ix rb)) ^^^ (-1 : Int32))) rg rs rc)
          refine k_cVv (As := [.int ra, .int ((rg (ix rd)) &&& ((rg (ix rb)) ^^^ (-1 : Int32)))]) (rest := []) (wr := []) (wj := [(aT, .inr (11, [.ref bG, .ref bS, .ref bM, .int rl, .int rk, .int rr, .int re, .int rc, .int rd, .int ra, .int rb, .int rn, .int rf, .int rw])), (bG, .inl (dG, 32, .inl t18.1)), (bS, .inl (dS, 48, .inl t18.2)), (bM, .inl (dM, 16384, .inl rm))]) ⟨hx, hb, hml, hown, hB⟩ (c_Ref_result l D aT bG bS bM dG dS dM rg rs rm rl rk rr re rc rd ra rb rn rf rw ra ((rg (ix rd)) &&& ((rg (ix rb)) ^^^ (-1 : Int32))) hra) yl_Ref_result mw_842 hK hN hP hD hS hA [0, 1, 2] [0, 1, 2, 3] [] [0, 1, 2, 3] rfl rfl rfl rfl (by decide +kernel) 0 rfl rfl rfl rfl hl.1 rfl (Nat.le_of_ble_eq_true rfl) ⟨Nat.le_of_ble_eq_true rfl, Nat.le_of_ble_eq_true rfl⟩ d_Ref_logic_141 ⟨Nat.le_of_ble_eq_true rfl, Nat.le_of_ble_eq_true rfl⟩ (fun H locs hP hD hS => ?_)
          refine lv_iconst (v := (1 : Int32)) hx hb d_Ref_logic_144 (by decide) ?_
          have ef : f_Ref_logic p0 rg rs rc rd ra rb = ((1 : Int32), t18.1, t18.2) := by unfold f_Ref_logic; try dsimp only; rw [if_neg h1, if_neg h4, if_neg h8, if_pos h13]
          exact k_zret hx hb hr hlocks hK hP hD hS [0, 1, 2, 3] rfl (by rw [ef] <;> rfl) (by rw [ef] <;> rfl) nb1 d_Ref_logic_145
        · refine lv_iload_n hx hb d_Ref_logic_46 rfl (lv_at hl 3 rfl) ?_
          refine lv_bipush (v := (124 : Int32)) hx hb d_Ref_logic_47 (by decide) ?_
          refine lv_icmp_eq (tgt := 61) hx hb d_Ref_logic_49 (by decide) (fun (h19 : p0 = (124 : Int32)) => ?_) (fun (h19 : ¬ p0 = (124 : Int32)) => ?_)
          · refine lv_iload_n hx hb d_Ref_logic_61 rfl (lv_at hl 3 rfl) ?_
            refine lv_bipush (v := (28 : Int32)) hx hb d_Ref_logic_62 (by decide) ?_
            refine lv_icmp_ne (tgt := 73) hx hb d_Ref_logic_64 (by decide) (fun (h20 : ¬ p0 = (28 : Int32)) => ?_) (fun (h20 : p0 = (28 : Int32)) => ?_)
            rotate_left
            · exact absurd h20 h1
            refine lv_iload_n hx hb d_Ref_logic_73 rfl (lv_at hl 3 rfl) ?_
            refine lv_sipush (v := (444 : Int32)) hx hb d_Ref_logic_74 (by decide) ?_
            refine lv_icmp_ne (tgt := 86) hx hb d_Ref_logic_77 (by decide) (fun (h21 : ¬ p0 = (444 : Int32)) => ?_) (fun (h21 : p0 = (444 : Int32)) => ?_)
            rotate_left
            · exact absurd h21 h4
            refine lv_iload_n hx hb d_Ref_logic_86 rfl (lv_at hl 3 rfl) ?_
            refine lv_sipush (v := (316 : Int32)) hx hb d_Ref_logic_87 (by decide) ?_
            refine lv_icmp_ne (tgt := 99) hx hb d_Ref_logic_90 (by decide) (fun (h22 : ¬ p0 = (316 : Int32)) => ?_) (fun (h22 : p0 = (316 : Int32)) => ?_)
            rotate_left
            · exact absurd h22 h8
            refine lv_iload_n hx hb d_Ref_logic_99 rfl (lv_at hl 3 rfl) ?_
            refine lv_bipush (v := (60 : Int32)) hx hb d_Ref_logic_100 (by decide) ?_
            refine lv_icmp_ne (tgt := 113) hx hb d_Ref_logic_102 (by decide) (fun (h23 : ¬ p0 = (60 : Int32)) => ?_) (fun (h23 : p0 = (60 : Int32)) => ?_)
            rotate_left
            · exact absurd h23 h13
            refine lv_iload_n hx hb d_Ref_logic_113 rfl (lv_at hl 3 rfl) ?_
            refine lv_bipush (v := (124 : Int32)) hx hb d_Ref_logic_114 (by decide) ?_
            refine lv_icmp_ne (tgt := 127) hx hb d_Ref_logic_116 (by decide) (fun (h24 : ¬ p0 = (124 : Int32)) => ?_) (fun (h24 : p0 = (124 : Int32)) => ?_)
            · exact absurd h19 h24
            refine lv_iload_n hx hb d_Ref_logic_119 rfl (lv_at hl 1 rfl) ?_
            refine lv_iload_n hx hb d_Ref_logic_120 rfl (lv_at hl 0 rfl) ?_
            refine lv_ior hx hb d_Ref_logic_121 ?_
            refine lv_iconst (v := (-1 : Int32)) hx hb d_Ref_logic_122 (by decide) ?_
            refine lv_ixor hx hb d_Ref_logic_123 ?_
            refine lv_goto (tgt := 132) hx hb d_Ref_logic_124 (by decide) ?_
            refine lv_istore (lv' := [(4, .int (((rg (ix rd)) ||| (rg (ix rb))) ^^^ (-1 : Int32))), (3, .int (rg (ix rb))), (2, .int (rg (ix rd))), (0, .ref aT), (1, .int p0)]) hx hb d_Ref_logic_132 hl (by decide) rfl (fun ls hl => ?_)
            refine lv_aload_n hx hb d_Ref_logic_134 rfl (lv_at hl 3 rfl) ?_
            refine lv_aload_n hx hb d_Ref_logic_135 rfl (lv_at hl 3 rfl) ?_
            refine va_get (D := D) (ci := 11) (v := .int ra) (C := "MappedProcessorModel") (T := T_Ref) (N := 14) hx hb hB iw_Ref hown hK hP 0 rfl rfl 9 (by decide) (hB _ mw_652) (fun _ h9 => h9) rfl d_Ref_logic_136 ?_
            refine lv_iload hx hb d_Ref_logic_139 (lv_at hl 0 rfl) ?_
            let t25 := (f_Ref_result ra (((rg (ix rd)) ||| (rg (ix rb))) ^^^ (-1 : Int32)) rg rs rc)
            refine k_cVv (As := [.int ra, .int (((rg (ix rd)) ||| (rg (ix rb))) ^^^ (-1 : Int32))]) (rest := []) (wr := []) (wj := [(aT, .inr (11, [.ref bG, .ref bS, .ref bM, .int rl, .int rk, .int rr, .int re, .int rc, .int rd, .int ra, .int rb, .int rn, .int rf, .int rw])), (bG, .inl (dG, 32, .inl t25.1)), (bS, .inl (dS, 48, .inl t25.2)), (bM, .inl (dM, 16384, .inl rm))]) ⟨hx, hb, hml, hown, hB⟩ (c_Ref_result l D aT bG bS bM dG dS dM rg rs rm rl rk rr re rc rd ra rb rn rf rw ra (((rg (ix rd)) ||| (rg (ix rb))) ^^^ (-1 : Int32)) hra) yl_Ref_result mw_842 hK hN hP hD hS hA [0, 1, 2] [0, 1, 2, 3] [] [0, 1, 2, 3] rfl rfl rfl rfl (by decide +kernel) 0 rfl rfl rfl rfl hl.1 rfl (Nat.le_of_ble_eq_true rfl) ⟨Nat.le_of_ble_eq_true rfl, Nat.le_of_ble_eq_true rfl⟩ d_Ref_logic_141 ⟨Nat.le_of_ble_eq_true rfl, Nat.le_of_ble_eq_true rfl⟩ (fun H locs hP hD hS => ?_)
            refine lv_iconst (v := (1 : Int32)) hx hb d_Ref_logic_144 (by decide) ?_
            have ef : f_Ref_logic p0 rg rs rc rd ra rb = ((1 : Int32), t25.1, t25.2) := by unfold f_Ref_logic; try dsimp only; rw [if_neg h1, if_neg h4, if_neg h8, if_neg h13, if_pos h19]
            exact k_zret hx hb hr hlocks hK hP hD hS [0, 1, 2, 3] rfl (by rw [ef] <;> rfl) (by rw [ef] <;> rfl) nb1 d_Ref_logic_145
          · refine lv_iload_n hx hb d_Ref_logic_52 rfl (lv_at hl 3 rfl) ?_
            refine lv_sipush (v := (476 : Int32)) hx hb d_Ref_logic_53 (by decide) ?_
            refine lv_icmp_eq (tgt := 61) hx hb d_Ref_logic_56 (by decide) (fun (h26 : p0 = (476 : Int32)) => ?_) (fun (h26 : ¬ p0 = (476 : Int32)) => ?_)
            · refine lv_iload_n hx hb d_Ref_logic_61 rfl (lv_at hl 3 rfl) ?_
              refine lv_bipush (v := (28 : Int32)) hx hb d_Ref_logic_62 (by decide) ?_
              refine lv_icmp_ne (tgt := 73) hx hb d_Ref_logic_64 (by decide) (fun (h27 : ¬ p0 = (28 : Int32)) => ?_) (fun (h27 : p0 = (28 : Int32)) => ?_)
              rotate_left
              · exact absurd h27 h1
              refine lv_iload_n hx hb d_Ref_logic_73 rfl (lv_at hl 3 rfl) ?_
              refine lv_sipush (v := (444 : Int32)) hx hb d_Ref_logic_74 (by decide) ?_
              refine lv_icmp_ne (tgt := 86) hx hb d_Ref_logic_77 (by decide) (fun (h28 : ¬ p0 = (444 : Int32)) => ?_) (fun (h28 : p0 = (444 : Int32)) => ?_)
              rotate_left
              · exact absurd h28 h4
              refine lv_iload_n hx hb d_Ref_logic_86 rfl (lv_at hl 3 rfl) ?_
              refine lv_sipush (v := (316 : Int32)) hx hb d_Ref_logic_87 (by decide) ?_
              refine lv_icmp_ne (tgt := 99) hx hb d_Ref_logic_90 (by decide) (fun (h29 : ¬ p0 = (316 : Int32)) => ?_) (fun (h29 : p0 = (316 : Int32)) => ?_)
              rotate_left
              · exact absurd h29 h8
              refine lv_iload_n hx hb d_Ref_logic_99 rfl (lv_at hl 3 rfl) ?_
              refine lv_bipush (v := (60 : Int32)) hx hb d_Ref_logic_100 (by decide) ?_
              refine lv_icmp_ne (tgt := 113) hx hb d_Ref_logic_102 (by decide) (fun (h30 : ¬ p0 = (60 : Int32)) => ?_) (fun (h30 : p0 = (60 : Int32)) => ?_)
              rotate_left
              · exact absurd h30 h13
              refine lv_iload_n hx hb d_Ref_logic_113 rfl (lv_at hl 3 rfl) ?_
              refine lv_bipush (v := (124 : Int32)) hx hb d_Ref_logic_114 (by decide) ?_
              refine lv_icmp_ne (tgt := 127) hx hb d_Ref_logic_116 (by decide) (fun (h31 : ¬ p0 = (124 : Int32)) => ?_) (fun (h31 : p0 = (124 : Int32)) => ?_)
              rotate_left
              · exact absurd h31 h19
              refine lv_iload_n hx hb d_Ref_logic_127 rfl (lv_at hl 1 rfl) ?_
              refine lv_iload_n hx hb d_Ref_logic_128 rfl (lv_at hl 0 rfl) ?_
              refine lv_iand hx hb d_Ref_logic_129 ?_
              refine lv_iconst (v := (-1 : Int32)) hx hb d_Ref_logic_130 (by decide) ?_
              refine lv_ixor hx hb d_Ref_logic_131 ?_
              refine lv_istore (lv' := [(4, .int (((rg (ix rd)) &&& (rg (ix rb))) ^^^ (-1 : Int32))), (3, .int (rg (ix rb))), (2, .int (rg (ix rd))), (0, .ref aT), (1, .int p0)]) hx hb d_Ref_logic_132 hl (by decide) rfl (fun ls hl => ?_)
              refine lv_aload_n hx hb d_Ref_logic_134 rfl (lv_at hl 3 rfl) ?_
              refine lv_aload_n hx hb d_Ref_logic_135 rfl (lv_at hl 3 rfl) ?_
              refine va_get (D := D) (ci := 11) (v := .int ra) (C := "MappedProcessorModel") (T := T_Ref) (N := 14) hx hb hB iw_Ref hown hK hP 0 rfl rfl 9 (by decide) (hB _ mw_652) (fun _ h9 => h9) rfl d_Ref_logic_136 ?_
              refine lv_iload hx hb d_Ref_logic_139 (lv_at hl 0 rfl) ?_
              let t32 := (f_Ref_result ra (((rg (ix rd)) &&& (rg (ix rb))) ^^^ (-1 : Int32)) rg rs rc)
              refine k_cVv (As := [.int ra, .int (((rg (ix rd)) &&& (rg (ix rb))) ^^^ (-1 : Int32))]) (rest := []) (wr := []) (wj := [(aT, .inr (11, [.ref bG, .ref bS, .ref bM, .int rl, .int rk, .int rr, .int re, .int rc, .int rd, .int ra, .int rb, .int rn, .int rf, .int rw])), (bG, .inl (dG, 32, .inl t32.1)), (bS, .inl (dS, 48, .inl t32.2)), (bM, .inl (dM, 16384, .inl rm))]) ⟨hx, hb, hml, hown, hB⟩ (c_Ref_result l D aT bG bS bM dG dS dM rg rs rm rl rk rr re rc rd ra rb rn rf rw ra (((rg (ix rd)) &&& (rg (ix rb))) ^^^ (-1 : Int32)) hra) yl_Ref_result mw_842 hK hN hP hD hS hA [0, 1, 2] [0, 1, 2, 3] [] [0, 1, 2, 3] rfl rfl rfl rfl (by decide +kernel) 0 rfl rfl rfl rfl hl.1 rfl (Nat.le_of_ble_eq_true rfl) ⟨Nat.le_of_ble_eq_true rfl, Nat.le_of_ble_eq_true rfl⟩ d_Ref_logic_141 ⟨Nat.le_of_ble_eq_true rfl, Nat.le_of_ble_eq_true rfl⟩ (fun H locs hP hD hS => ?_)
              refine lv_iconst (v := (1 : Int32)) hx hb d_Ref_logic_144 (by decide) ?_
              have ef : f_Ref_logic p0 rg rs rc rd ra rb = ((1 : Int32), t32.1, t32.2) := by unfold f_Ref_logic; try dsimp only; rw [if_neg h1, if_neg h4, if_neg h8, if_neg h13, if_neg h19, if_pos h26]
              exact k_zret hx hb hr hlocks hK hP hD hS [0, 1, 2, 3] rfl (by rw [ef] <;> rfl) (by rw [ef] <;> rfl) nb1 d_Ref_logic_145
            · refine lv_iconst (v := (0 : Int32)) hx hb d_Ref_logic_59 (by decide) ?_
              have ef : f_Ref_logic p0 rg rs rc rd ra rb = ((0 : Int32), rg, rs) := by unfold f_Ref_logic; try dsimp only; rw [if_neg h1, if_neg h4, if_neg h8, if_neg h13, if_neg h19, if_neg h26]
              exact k_zret hx hb hr hlocks hK hP hD hS [0, 1, 2, 3] rfl (by rw [ef] <;> rfl) (by rw [ef] <;> rfl) nb0 d_Ref_logic_60
/-! MappedProcessorModel.zeros(I)I -/
theorem d_Ref_zeros_0 : decode b_Ref_zeros 0 = .ok (.iconst 0, 1) := by decide +kernel
theorem d_Ref_zeros_1 : decode b_Ref_zeros 1 = .ok (.istore_n 1, 1) := by decide +kernel
theorem d_Ref_zeros_2 : decode b_Ref_zeros 2 = .ok (.bipush 31, 2) := by decide +kernel
theorem d_Ref_zeros_4 : decode b_Ref_zeros 4 = .ok (.istore_n 2, 1) := by decide +kernel
theorem d_Ref_zeros_5 : decode b_Ref_zeros 5 = .ok (.iload_n 2, 1) := by decide +kernel
theorem d_Ref_zeros_6 : decode b_Ref_zeros 6 = .ok (.ifCond .lt 21, 3) := by decide +kernel
theorem d_Ref_zeros_9 : decode b_Ref_zeros 9 = .ok (.iload_n 0, 1) := by decide +kernel
theorem d_Ref_zeros_10 : decode b_Ref_zeros 10 = .ok (.iload_n 2, 1) := by decide +kernel
theorem d_Ref_zeros_11 : decode b_Ref_zeros 11 = .ok (.invokestatic 28, 3) := by decide +kernel
theorem d_Ref_zeros_14 : decode b_Ref_zeros 14 = .ok (.ifCond .ne 13, 3) := by decide +kernel
theorem d_Ref_zeros_17 : decode b_Ref_zeros 17 = .ok (.iload_n 1, 1) := by decide +kernel
theorem d_Ref_zeros_18 : decode b_Ref_zeros 18 = .ok (.iconst 1, 1) := by decide +kernel
theorem d_Ref_zeros_19 : decode b_Ref_zeros 19 = .ok (.iadd, 1) := by decide +kernel
theorem d_Ref_zeros_20 : decode b_Ref_zeros 20 = .ok (.istore_n 1, 1) := by decide +kernel
theorem d_Ref_zeros_21 : decode b_Ref_zeros 21 = .ok (.iinc 2 (-1), 3) := by decide +kernel
theorem d_Ref_zeros_24 : decode b_Ref_zeros 24 = .ok (.goto (-19), 3) := by decide +kernel
theorem d_Ref_zeros_27 : decode b_Ref_zeros 27 = .ok (.iload_n 1, 1) := by decide +kernel
theorem d_Ref_zeros_28 : decode b_Ref_zeros 28 = .ok (.ireturn, 1) := by decide +kernel
def f_Ref_zeros (p0 : Int32) : Int32 :=
  if (f_Ref_bit p0 (31 : Int32)) = (0 : Int32) then
    if (f_Ref_bit p0 (30 : Int32)) = (0 : Int32) then
      if (f_Ref_bit p0 (29 : Int32)) = (0 : Int32) then
        if (f_Ref_bit p0 (28 : Int32)) = (0 : Int32) then
          if (f_Ref_bit p0 (27 : Int32)) = (0 : Int32) then
            if (f_Ref_bit p0 (26 : Int32)) = (0 : Int32) then
              if (f_Ref_bit p0 (25 : Int32)) = (0 : Int32) then
                if (f_Ref_bit p0 (24 : Int32)) = (0 : Int32) then
                  if (f_Ref_bit p0 (23 : Int32)) = (0 : Int32) then
                    if (f_Ref_bit p0 (22 : Int32)) = (0 : Int32) then
                      if (f_Ref_bit p0 (21 : Int32)) = (0 : Int32) then
                        if (f_Ref_bit p0 (20 : Int32)) = (0 : Int32) then
                          if (f_Ref_bit p0 (19 : Int32)) = (0 : Int32) then
                            if (f_Ref_bit p0 (18 : Int32)) = (0 : Int32) then
                              if (f_Ref_bit p0 (17 : Int32)) = (0 : Int32) then
                                if (f_Ref_bit p0 (16 : Int32)) = (0 : Int32) then
                                  if (f_Ref_bit p0 (15 : Int32)) = (0 : Int32) then
                                    if (f_Ref_bit p0 (14 : Int32)) = (0 : Int32) then
                                      if (f_Ref_bit p0 (13 : Int32)) = (0 : Int32) then
                                        if (f_Ref_bit p0 (12 : Int32)) = (0 : Int32) then
                                          if (f_Ref_bit p0 (11 : Int32)) = (0 : Int32) then
                                            if (f_Ref_bit p0 (10 : Int32)) = (0 : Int32) then
                                              if (f_Ref_bit p0 (9 : Int32)) = (0 : Int32) then
                                                if (f_Ref_bit p0 (8 : Int32)) = (0 : Int32) then
                                                  if (f_Ref_bit p0 (7 : Int32)) = (0 : Int32) then
                                                    if (f_Ref_bit p0 (6 : Int32)) = (0 : Int32) then
                                                      if (f_Ref_bit p0 (5 : Int32)) = (0 : Int32) then
                                                        if (f_Ref_bit p0 (4 : Int32)) = (0 : Int32) then
                                                          if (f_Ref_bit p0 (3 : Int32)) = (0 : Int32) then
                                                            if (f_Ref_bit p0 (2 : Int32)) = (0 : Int32) then
                                                              if (f_Ref_bit p0 (1 : Int32)) = (0 : Int32) then
                                                                if (f_Ref_bit p0 (0 : Int32)) = (0 : Int32) then
                                                                  (32 : Int32)
                                                                else
                                                                  (31 : Int32)
                                                              else
                                                                (30 : Int32)
                                                            else
                                                              (29 : Int32)
                                                          else
                                                            (28 : Int32)
                                                        else
                                                          (27 : Int32)
                                                      else
                                                        (26 : Int32)
                                                    else
                                                      (25 : Int32)
                                                  else
                                                    (24 : Int32)
                                                else
                                                  (23 : Int32)
                                              else
                                                (22 : Int32)
                                            else
                                              (21 : Int32)
                                          else
                                            (20 : Int32)
                                        else
                                          (19 : Int32)
                                      else
                                        (18 : Int32)
                                    else
                                      (17 : Int32)
                                  else
                                    (16 : Int32)
                                else
                                  (15 : Int32)
                              else
                                (14 : Int32)
                            else
                              (13 : Int32)
                          else
                            (12 : Int32)
                        else
                          (11 : Int32)
                      else
                        (10 : Int32)
                    else
                      (9 : Int32)
                  else
                    (8 : Int32)
                else
                  (7 : Int32)
              else
                (6 : Int32)
            else
              (5 : Int32)
          else
            (4 : Int32)
        else
          (3 : Int32)
      else
        (2 : Int32)
    else
      (1 : Int32)
  else
    (0 : Int32)
set_option maxHeartbeats 4000000 in
set_option maxRecDepth 100000 in
theorem c_Ref_zeros (l : Launch) (D : va_G) (p0 : Int32) : kMi l y_Ref_zeros b_Ref_zeros 3 (some .int) 1 21 D kCl [] [.int p0] [] (f_Ref_zeros p0) [] := by
  refine k_entry (Qc := fun A => kQi D kCl [] (f_Ref_zeros p0) [] A) (lv := [(0, .int p0)]) (by decide) (Nat.le_of_ble_eq_true rfl) rfl ?_
  intro p e s m below meth c A ls hx hb hr hml hB hown hlocks hin hA hK hN hP hD hS hl
  have hown : s.vm.findClass "MappedProcessorModel" = some m.cls := hown
  refine lv_iconst (v := (0 : Int32)) hx hb d_Ref_zeros_0 (by decide) ?_
  refine lv_istore_n (lv' := [(1, .int (0 : Int32)), (0, .int p0)]) hx hb d_Ref_zeros_1 rfl hl (by decide) rfl (fun ls hl => ?_)
  refine lv_bipush (v := (31 : Int32)) hx hb d_Ref_zeros_2 (by decide) ?_
  refine lv_istore_n (lv' := [(2, .int (31 : Int32)), (1, .int (0 : Int32)), (0, .int p0)]) hx hb d_Ref_zeros_4 rfl hl (by decide) rfl (fun ls hl => ?_)
  refine lv_iload_n hx hb d_Ref_zeros_5 rfl (lv_at hl 0 rfl) ?_
  refine lv_if_lt (tgt := 27) hx hb d_Ref_zeros_6 (by decide) (fun h1 => ?_) (fun h1 => ?_)
  · exact absurd h1 (by decide)
  refine lv_iload_n hx hb d_Ref_zeros_9 rfl (lv_at hl 2 rfl) ?_
  refine lv_iload_n hx hb d_Ref_zeros_10 rfl (lv_at hl 0 rfl) ?_
  refine k_cSi (As := [.int p0, .int (31 : Int32)]) (rest := []) (wr := []) (wj := []) ⟨hx, hb, hml, hown, hB⟩ (c_Ref_bit l D p0 (31 : Int32)) yl_Ref_bit mw_725 hK hN hP hD hS hA [] [] [] [] rfl rfl rfl rfl (by decide +kernel) rfl hl.1 rfl (Nat.le_of_ble_eq_true rfl) ⟨Nat.le_of_ble_eq_true rfl, Nat.le_of_ble_eq_true rfl⟩ d_Ref_zeros_11 ⟨Nat.le_of_ble_eq_true rfl, Nat.le_of_ble_eq_true rfl⟩ (fun H locs hP hD hS => ?_)
  refine lv_if_ne (tgt := 27) hx hb d_Ref_zeros_14 (by decide) (fun (h5 : ¬ (f_Ref_bit p0 (31 : Int32)) = (0 : Int32)) => ?_) (fun (h5 : (f_Ref_bit p0 (31 : Int32)) = (0 : Int32)) => ?_)
  · refine lv_iload_n hx hb d_Ref_zeros_27 rfl (lv_at hl 1 rfl) ?_
    have ef : f_Ref_zeros p0 = (0 : Int32) := by unfold f_Ref_zeros; rw [if_neg h5]
    exact k_iret hx hb hr hlocks hK hP hD hS [] rfl rfl (by rw [ef] <;> rfl) d_Ref_zeros_28
  · refine lv_iload_n hx hb d_Ref_zeros_17 rfl (lv_at hl 1 rfl) ?_
    refine lv_iconst (v := (1 : Int32)) hx hb d_Ref_zeros_18 (by decide) ?_
    refine lv_iadd hx hb d_Ref_zeros_19 ?_
    refine k_fold (1 : Int32) (by decide) ?_
    refine lv_istore_n (lv' := [(1, .int (1 : Int32)), (2, .int (31 : Int32)), (0, .int p0)]) hx hb d_Ref_zeros_20 rfl hl (by decide) rfl (fun ls hl => ?_)
    refine lv_iinc (v := (30 : Int32)) (lv' := [(2, .int (30 : Int32)), (1, .int (1 : Int32)), (0, .int p0)]) hx hb d_Ref_zeros_21 hl (k := 1) rfl (by decide) (by decide) rfl (fun ls hl => ?_)
    refine lv_goto (tgt := 5) hx hb d_Ref_zeros_24 (by decide) ?_
    refine lv_iload_n hx hb d_Ref_zeros_5 rfl (lv_at hl 0 rfl) ?_
    refine lv_if_lt (tgt := 27) hx hb d_Ref_zeros_6 (by decide) (fun h6 => ?_) (fun h6 => ?_)
    · exact absurd h6 (by decide)
    refine lv_iload_n hx hb d_Ref_zeros_9 rfl (lv_at hl 2 rfl) ?_
    refine lv_iload_n hx hb d_Ref_zeros_10 rfl (lv_at hl 0 rfl) ?_
    refine k_cSi (As := [.int p0, .int (30 : Int32)]) (rest := []) (wr := []) (wj := []) ⟨hx, hb, hml, hown, hB⟩ (c_Ref_bit l D p0 (30 : Int32)) yl_Ref_bit mw_725 hK hN hP hD hS hA [] [] [] [] rfl rfl rfl rfl (by decide +kernel) rfl hl.1 rfl (Nat.le_of_ble_eq_true rfl) ⟨Nat.le_of_ble_eq_true rfl, Nat.le_of_ble_eq_true rfl⟩ d_Ref_zeros_11 ⟨Nat.le_of_ble_eq_true rfl, Nat.le_of_ble_eq_true rfl⟩ (fun H locs hP hD hS => ?_)
    refine lv_if_ne (tgt := 27) hx hb d_Ref_zeros_14 (by decide) (fun (h10 : ¬ (f_Ref_bit p0 (30 : Int32)) = (0 : Int32)) => ?_) (fun (h10 : (f_Ref_bit p0 (30 : Int32)) = (0 : Int32)) => ?_)
    · refine lv_iload_n hx hb d_Ref_zeros_27 rfl (lv_at hl 1 rfl) ?_
      have ef : f_Ref_zeros p0 = (1 : Int32) := by unfold f_Ref_zeros; rw [if_pos h5, if_neg h10]
      exact k_iret hx hb hr hlocks hK hP hD hS [] rfl rfl (by rw [ef] <;> rfl) d_Ref_zeros_28
    · refine lv_iload_n hx hb d_Ref_zeros_17 rfl (lv_at hl 1 rfl) ?_
      refine lv_iconst (v := (1 : Int32)) hx hb d_Ref_zeros_18 (by decide) ?_
      refine lv_iadd hx hb d_Ref_zeros_19 ?_
      refine k_fold (2 : Int32) (by decide) ?_
      refine lv_istore_n (lv' := [(1, .int (2 : Int32)), (2, .int (30 : Int32)), (0, .int p0)]) hx hb d_Ref_zeros_20 rfl hl (by decide) rfl (fun ls hl => ?_)
      refine lv_iinc (v := (29 : Int32)) (lv' := [(2, .int (29 : Int32)), (1, .int (2 : Int32)), (0, .int p0)]) hx hb d_Ref_zeros_21 hl (k := 1) rfl (by decide) (by decide) rfl (fun ls hl => ?_)
      refine lv_goto (tgt := 5) hx hb d_Ref_zeros_24 (by decide) ?_
      refine lv_iload_n hx hb d_Ref_zeros_5 rfl (lv_at hl 0 rfl) ?_
      refine lv_if_lt (tgt := 27) hx hb d_Ref_zeros_6 (by decide) (fun h11 => ?_) (fun h11 => ?_)
      · exact absurd h11 (by decide)
      refine lv_iload_n hx hb d_Ref_zeros_9 rfl (lv_at hl 2 rfl) ?_
      refine lv_iload_n hx hb d_Ref_zeros_10 rfl (lv_at hl 0 rfl) ?_
      refine k_cSi (As := [.int p0, .int (29 : Int32)]) (rest := []) (wr := []) (wj := []) ⟨hx, hb, hml, hown, hB⟩ (c_Ref_bit l D p0 (29 : Int32)) yl_Ref_bit mw_725 hK hN hP hD hS hA [] [] [] [] rfl rfl rfl rfl (by decide +kernel) rfl hl.1 rfl (Nat.le_of_ble_eq_true rfl) ⟨Nat.le_of_ble_eq_true rfl, Nat.le_of_ble_eq_true rfl⟩ d_Ref_zeros_11 ⟨Nat.le_of_ble_eq_true rfl, Nat.le_of_ble_eq_true rfl⟩ (fun H locs hP hD hS => ?_)
      refine lv_if_ne (tgt := 27) hx hb d_Ref_zeros_14 (by decide) (fun (h15 : ¬ (f_Ref_bit p0 (29 : Int32)) = (0 : Int32)) => ?_) (fun (h15 : (f_Ref_bit p0 (29 : Int32)) = (0 : Int32)) => ?_)
      · refine lv_iload_n hx hb d_Ref_zeros_27 rfl (lv_at hl 1 rfl) ?_
        have ef : f_Ref_zeros p0 = (2 : Int32) := by unfold f_Ref_zeros; rw [if_pos h5, if_pos h10, if_neg h15]
        exact k_iret hx hb hr hlocks hK hP hD hS [] rfl rfl (by rw [ef] <;> rfl) d_Ref_zeros_28
      · refine lv_iload_n hx hb d_Ref_zeros_17 rfl (lv_at hl 1 rfl) ?_
        refine lv_iconst (v := (1 : Int32)) hx hb d_Ref_zeros_18 (by decide) ?_
        refine lv_iadd hx hb d_Ref_zeros_19 ?_
        refine k_fold (3 : Int32) (by decide) ?_
        refine lv_istore_n (lv' := [(1, .int (3 : Int32)), (2, .int (29 : Int32)), (0, .int p0)]) hx hb d_Ref_zeros_20 rfl hl (by decide) rfl (fun ls hl => ?_)
        refine lv_iinc (v := (28 : Int32)) (lv' := [(2, .int (28 : Int32)), (1, .int (3 : Int32)), (0, .int p0)]) hx hb d_Ref_zeros_21 hl (k := 1) rfl (by decide) (by decide) rfl (fun ls hl => ?_)
        refine lv_goto (tgt := 5) hx hb d_Ref_zeros_24 (by decide) ?_
        refine lv_iload_n hx hb d_Ref_zeros_5 rfl (lv_at hl 0 rfl) ?_
        refine lv_if_lt (tgt := 27) hx hb d_Ref_zeros_6 (by decide) (fun h16 => ?_) (fun h16 => ?_)
        · exact absurd h16 (by decide)
        refine lv_iload_n hx hb d_Ref_zeros_9 rfl (lv_at hl 2 rfl) ?_
        refine lv_iload_n hx hb d_Ref_zeros_10 rfl (lv_at hl 0 rfl) ?_
        refine k_cSi (As := [.int p0, .int (28 : Int32)]) (rest := []) (wr := []) (wj := []) ⟨hx, hb, hml, hown, hB⟩ (c_Ref_bit l D p0 (28 : Int32)) yl_Ref_bit mw_725 hK hN hP hD hS hA [] [] [] [] rfl rfl rfl rfl (by decide +kernel) rfl hl.1 rfl (Nat.le_of_ble_eq_true rfl) ⟨Nat.le_of_ble_eq_true rfl, Nat.le_of_ble_eq_true rfl⟩ d_Ref_zeros_11 ⟨Nat.le_of_ble_eq_true rfl, Nat.le_of_ble_eq_true rfl⟩ (fun H locs hP hD hS => ?_)
        refine lv_if_ne (tgt := 27) hx hb d_Ref_zeros_14 (by decide) (fun (h20 : ¬ (f_Ref_bit p0 (28 : Int32)) = (0 : Int32)) => ?_) (fun (h20 : (f_Ref_bit p0 (28 : Int32)) = (0 : Int32)) => ?_)
        · refine lv_iload_n hx hb d_Ref_zeros_27 rfl (lv_at hl 1 rfl) ?_
          have ef : f_Ref_zeros p0 = (3 : Int32) := by unfold f_Ref_zeros; rw [if_pos h5, if_pos h10, if_pos h15, if_neg h20]
          exact k_iret hx hb hr hlocks hK hP hD hS [] rfl rfl (by rw [ef] <;> rfl) d_Ref_zeros_28
        · refine lv_iload_n hx hb d_Ref_zeros_17 rfl (lv_at hl 1 rfl) ?_
          refine lv_iconst (v := (1 : Int32)) hx hb d_Ref_zeros_18 (by decide) ?_
          refine lv_iadd hx hb d_Ref_zeros_19 ?_
          refine k_fold (4 : Int32) (by decide) ?_
          refine lv_istore_n (lv' := [(1, .int (4 : Int32)), (2, .int (28 : Int32)), (0, .int p0)]) hx hb d_Ref_zeros_20 rfl hl (by decide) rfl (fun ls hl => ?_)
          refine lv_iinc (v := (27 : Int32)) (lv' := [(2, .int (27 : Int32)), (1, .int (4 : Int32)), (0, .int p0)]) hx hb d_Ref_zeros_21 hl (k := 1) rfl (by decide) (by decide) rfl (fun ls hl => ?_)
          refine lv_goto (tgt := 5) hx hb d_Ref_zeros_24 (by decide) ?_
          refine lv_iload_n hx hb d_Ref_zeros_5 rfl (lv_at hl 0 rfl) ?_
          refine lv_if_lt (tgt := 27) hx hb d_Ref_zeros_6 (by decide) (fun h21 => ?_) (fun h21 => ?_)
          · exact absurd h21 (by decide)
          refine lv_iload_n hx hb d_Ref_zeros_9 rfl (lv_at hl 2 rfl) ?_
          refine lv_iload_n hx hb d_Ref_zeros_10 rfl (lv_at hl 0 rfl) ?_
          refine k_cSi (As := [.int p0, .int (27 : Int32)]) (rest := []) (wr := []) (wj := []) ⟨hx, hb, hml, hown, hB⟩ (c_Ref_bit l D p0 (27 : Int32)) yl_Ref_bit mw_725 hK hN hP hD hS hA [] [] [] [] rfl rfl rfl rfl (by decide +kernel) rfl hl.1 rfl (Nat.le_of_ble_eq_true rfl) ⟨Nat.le_of_ble_eq_true rfl, Nat.le_of_ble_eq_true rfl⟩ d_Ref_zeros_11 ⟨Nat.le_of_ble_eq_true rfl, Nat.le_of_ble_eq_true rfl⟩ (fun H locs hP hD hS => ?_)
          refine lv_if_ne (tgt := 27) hx hb d_Ref_zeros_14 (by decide) (fun (h25 : ¬ (f_Ref_bit p0 (27 : Int32)) = (0 : Int32)) => ?_) (fun (h25 : (f_Ref_bit p0 (27 : Int32)) = (0 : Int32)) => ?_)
          · refine lv_iload_n hx hb d_Ref_zeros_27 rfl (lv_at hl 1 rfl) ?_
            have ef : f_Ref_zeros p0 = (4 : Int32) := by unfold f_Ref_zeros; rw [if_pos h5, if_pos h10, if_pos h15, if_pos h20, if_neg h25]
            exact k_iret hx hb hr hlocks hK hP hD hS [] rfl rfl (by rw [ef] <;> rfl) d_Ref_zeros_28
          · refine lv_iload_n hx hb d_Ref_zeros_17 rfl (lv_at hl 1 rfl) ?_
            refine lv_iconst (v := (1 : Int32)) hx hb d_Ref_zeros_18 (by decide) ?_
            refine lv_iadd hx hb d_Ref_zeros_19 ?_
            refine k_fold (5 : Int32) (by decide) ?_
            refine lv_istore_n (lv' := [(1, .int (5 : Int32)), (2, .int (27 : Int32)), (0, .int p0)]) hx hb d_Ref_zeros_20 rfl hl (by decide) rfl (fun ls hl => ?_)
            refine lv_iinc (v := (26 : Int32)) (lv' := [(2, .int (26 : Int32)), (1, .int (5 : Int32)), (0, .int p0)]) hx hb d_Ref_zeros_21 hl (k := 1) rfl (by decide) (by decide) rfl (fun ls hl => ?_)
            refine lv_goto (tgt := 5) hx hb d_Ref_zeros_24 (by decide) ?_
            refine lv_iload_n hx hb d_Ref_zeros_5 rfl (lv_at hl 0 rfl) ?_
            refine lv_if_lt (tgt := 27) hx hb d_Ref_zeros_6 (by decide) (fun h26 => ?_) (fun h26 => ?_)
            · exact absurd h26 (by decide)
            refine lv_iload_n hx hb d_Ref_zeros_9 rfl (lv_at hl 2 rfl) ?_
            refine lv_iload_n hx hb d_Ref_zeros_10 rfl (lv_at hl 0 rfl) ?_
            refine k_cSi (As := [.int p0, .int (26 : Int32)]) (rest := []) (wr := []) (wj := []) ⟨hx, hb, hml, hown, hB⟩ (c_Ref_bit l D p0 (26 : Int32)) yl_Ref_bit mw_725 hK hN hP hD hS hA [] [] [] [] rfl rfl rfl rfl (by decide +kernel) rfl hl.1 rfl (Nat.le_of_ble_eq_true rfl) ⟨Nat.le_of_ble_eq_true rfl, Nat.le_of_ble_eq_true rfl⟩ d_Ref_zeros_11 ⟨Nat.le_of_ble_eq_true rfl, Nat.le_of_ble_eq_true rfl⟩ (fun H locs hP hD hS => ?_)
            refine lv_if_ne (tgt := 27) hx hb d_Ref_zeros_14 (by decide) (fun (h30 : ¬ (f_Ref_bit p0 (26 : Int32)) = (0 : Int32)) => ?_) (fun (h30 : (f_Ref_bit p0 (26 : Int32)) = (0 : Int32)) => ?_)
            · refine lv_iload_n hx hb d_Ref_zeros_27 rfl (lv_at hl 1 rfl) ?_
              have ef : f_Ref_zeros p0 = (5 : Int32) := by unfold f_Ref_zeros; rw [if_pos h5, if_pos h10, if_pos h15, if_pos h20, if_pos h25, if_neg h30]
              exact k_iret hx hb hr hlocks hK hP hD hS [] rfl rfl (by rw [ef] <;> rfl) d_Ref_zeros_28
            · refine lv_iload_n hx hb d_Ref_zeros_17 rfl (lv_at hl 1 rfl) ?_
              refine lv_iconst (v := (1 : Int32)) hx hb d_Ref_zeros_18 (by decide) ?_
              refine lv_iadd hx hb d_Ref_zeros_19 ?_
              refine k_fold (6 : Int32) (by decide) ?_
              refine lv_istore_n (lv' := [(1, .int (6 : Int32)), (2, .int (26 : Int32)), (0, .int p0)]) hx hb d_Ref_zeros_20 rfl hl (by decide) rfl (fun ls hl => ?_)
              refine lv_iinc (v := (25 : Int32)) (lv' := [(2, .int (25 : Int32)), (1, .int (6 : Int32)), (0, .int p0)]) hx hb d_Ref_zeros_21 hl (k := 1) rfl (by decide) (by decide) rfl (fun ls hl => ?_)
              refine lv_goto (tgt := 5) hx hb d_Ref_zeros_24 (by decide) ?_
              refine lv_iload_n hx hb d_Ref_zeros_5 rfl (lv_at hl 0 rfl) ?_
              refine lv_if_lt (tgt := 27) hx hb d_Ref_zeros_6 (by decide) (fun h31 => ?_) (fun h31 => ?_)
              · exact absurd h31 (by decide)
              refine lv_iload_n hx hb d_Ref_zeros_9 rfl (lv_at hl 2 rfl) ?_
              refine lv_iload_n hx hb d_Ref_zeros_10 rfl (lv_at hl 0 rfl) ?_
              refine k_cSi (As := [.int p0, .int (25 : Int32)]) (rest := []) (wr := []) (wj := []) ⟨hx, hb, hml, hown, hB⟩ (c_Ref_bit l D p0 (25 : Int32)) yl_Ref_bit mw_725 hK hN hP hD hS hA [] [] [] [] rfl rfl rfl rfl (by decide +kernel) rfl hl.1 rfl (Nat.le_of_ble_eq_true rfl) ⟨Nat.le_of_ble_eq_true rfl, Nat.le_of_ble_eq_true rfl⟩ d_Ref_zeros_11 ⟨Nat.le_of_ble_eq_true rfl, Nat.le_of_ble_eq_true rfl⟩ (fun H locs hP hD hS => ?_)
              refine lv_if_ne (tgt := 27) hx hb d_Ref_zeros_14 (by decide) (fun (h35 : ¬ (f_Ref_bit p0 (25 : Int32)) = (0 : Int32)) => ?_) (fun (h35 : (f_Ref_bit p0 (25 : Int32)) = (0 : Int32)) => ?_)
              · refine lv_iload_n hx hb d_Ref_zeros_27 rfl (lv_at hl 1 rfl) ?_
                have ef : f_Ref_zeros p0 = (6 : Int32) := by unfold f_Ref_zeros; rw [if_pos h5, if_pos h10, if_pos h15, if_pos h20, if_pos h25, if_pos h30, if_neg h35]
                exact k_iret hx hb hr hlocks hK hP hD hS [] rfl rfl (by rw [ef] <;> rfl) d_Ref_zeros_28
              · refine lv_iload_n hx hb d_Ref_zeros_17 rfl (lv_at hl 1 rfl) ?_
                refine lv_iconst (v := (1 : Int32)) hx hb d_Ref_zeros_18 (by decide) ?_
                refine lv_iadd hx hb d_Ref_zeros_19 ?_
                refine k_fold (7 : Int32) (by decide) ?_
                refine lv_istore_n (lv' := [(1, .int (7 : Int32)), (2, .int (25 : Int32)), (0, .int p0)]) hx hb d_Ref_zeros_20 rfl hl (by decide) rfl (fun ls hl => ?_)
                refine lv_iinc (v := (24 : Int32)) (lv' := [(2, .int (24 : Int32)), (1, .int (7 : Int32)), (0, .int p0)]) hx hb d_Ref_zeros_21 hl (k := 1) rfl (by decide) (by decide) rfl (fun ls hl => ?_)
                refine lv_goto (tgt := 5) hx hb d_Ref_zeros_24 (by decide) ?_
                refine lv_iload_n hx hb d_Ref_zeros_5 rfl (lv_at hl 0 rfl) ?_
                refine lv_if_lt (tgt := 27) hx hb d_Ref_zeros_6 (by decide) (fun h36 => ?_) (fun h36 => ?_)
                · exact absurd h36 (by decide)
                refine lv_iload_n hx hb d_Ref_zeros_9 rfl (lv_at hl 2 rfl) ?_
                refine lv_iload_n hx hb d_Ref_zeros_10 rfl (lv_at hl 0 rfl) ?_
                refine k_cSi (As := [.int p0, .int (24 : Int32)]) (rest := []) (wr := []) (wj := []) ⟨hx, hb, hml, hown, hB⟩ (c_Ref_bit l D p0 (24 : Int32)) yl_Ref_bit mw_725 hK hN hP hD hS hA [] [] [] [] rfl rfl rfl rfl (by decide +kernel) rfl hl.1 rfl (Nat.le_of_ble_eq_true rfl) ⟨Nat.le_of_ble_eq_true rfl, Nat.le_of_ble_eq_true rfl⟩ d_Ref_zeros_11 ⟨Nat.le_of_ble_eq_true rfl, Nat.le_of_ble_eq_true rfl⟩ (fun H locs hP hD hS => ?_)
                refine lv_if_ne (tgt := 27) hx hb d_Ref_zeros_14 (by decide) (fun (h40 : ¬ (f_Ref_bit p0 (24 : Int32)) = (0 : Int32)) => ?_) (fun (h40 : (f_Ref_bit p0 (24 : Int32)) = (0 : Int32)) => ?_)
                · refine lv_iload_n hx hb d_Ref_zeros_27 rfl (lv_at hl 1 rfl) ?_
                  have ef : f_Ref_zeros p0 = (7 : Int32) := by unfold f_Ref_zeros; rw [if_pos h5, if_pos h10, if_pos h15, if_pos h20, if_pos h25, if_pos h30, if_pos h35, if_neg h40]
                  exact k_iret hx hb hr hlocks hK hP hD hS [] rfl rfl (by rw [ef] <;> rfl) d_Ref_zeros_28
                · refine lv_iload_n hx hb d_Ref_zeros_17 rfl (lv_at hl 1 rfl) ?_
                  refine lv_iconst (v := (1 : Int32)) hx hb d_Ref_zeros_18 (by decide) ?_
                  refine lv_iadd hx hb d_Ref_zeros_19 ?_
                  refine k_fold (8 : Int32) (by decide) ?_
                  refine lv_istore_n (lv' := [(1, .int (8 : Int32)), (2, .int (24 : Int32)), (0, .int p0)]) hx hb d_Ref_zeros_20 rfl hl (by decide) rfl (fun ls hl => ?_)
                  refine lv_iinc (v := (23 : Int32)) (lv' := [(2, .int (23 : Int32)), (1, .int (8 : Int32)), (0, .int p0)]) hx hb d_Ref_zeros_21 hl (k := 1) rfl (by decide) (by decide) rfl (fun ls hl => ?_)
                  refine lv_goto (tgt := 5) hx hb d_Ref_zeros_24 (by decide) ?_
                  refine lv_iload_n hx hb d_Ref_zeros_5 rfl (lv_at hl 0 rfl) ?_
                  refine lv_if_lt (tgt := 27) hx hb d_Ref_zeros_6 (by decide) (fun h41 => ?_) (fun h41 => ?_)
                  · exact absurd h41 (by decide)
                  refine lv_iload_n hx hb d_Ref_zeros_9 rfl (lv_at hl 2 rfl) ?_
                  refine lv_iload_n hx hb d_Ref_zeros_10 rfl (lv_at hl 0 rfl) ?_
                  refine k_cSi (As := [.int p0, .int (23 : Int32)]) (rest := []) (wr := []) (wj := []) ⟨hx, hb, hml, hown, hB⟩ (c_Ref_bit l D p0 (23 : Int32)) yl_Ref_bit mw_725 hK hN hP hD hS hA [] [] [] [] rfl rfl rfl rfl (by decide +kernel) rfl hl.1 rfl (Nat.le_of_ble_eq_true rfl) ⟨Nat.le_of_ble_eq_true rfl, Nat.le_of_ble_eq_true rfl⟩ d_Ref_zeros_11 ⟨Nat.le_of_ble_eq_true rfl, Nat.le_of_ble_eq_true rfl⟩ (fun H locs hP hD hS => ?_)
                  refine lv_if_ne (tgt := 27) hx hb d_Ref_zeros_14 (by decide) (fun (h45 : ¬ (f_Ref_bit p0 (23 : Int32)) = (0 : Int32)) => ?_) (fun (h45 : (f_Ref_bit p0 (23 : Int32)) = (0 : Int32)) => ?_)
                  · refine lv_iload_n hx hb d_Ref_zeros_27 rfl (lv_at hl 1 rfl) ?_
                    have ef : f_Ref_zeros p0 = (8 : Int32) := by unfold f_Ref_zeros; rw [if_pos h5, if_pos h10, if_pos h15, if_pos h20, if_pos h25, if_pos h30, if_pos h35, if_pos h40, if_neg h45]
                    exact k_iret hx hb hr hlocks hK hP hD hS [] rfl rfl (by rw [ef] <;> rfl) d_Ref_zeros_28
                  · refine lv_iload_n hx hb d_Ref_zeros_17 rfl (lv_at hl 1 rfl) ?_
                    refine lv_iconst (v := (1 : Int32)) hx hb d_Ref_zeros_18 (by decide) ?_
                    refine lv_iadd hx hb d_Ref_zeros_19 ?_
                    refine k_fold (9 : Int32) (by decide) ?_
                    refine lv_istore_n (lv' := [(1, .int (9 : Int32)), (2, .int (23 : Int32)), (0, .int p0)]) hx hb d_Ref_zeros_20 rfl hl (by decide) rfl (fun ls hl => ?_)
                    refine lv_iinc (v := (22 : Int32)) (lv' := [(2, .int (22 : Int32)), (1, .int (9 : Int32)), (0, .int p0)]) hx hb d_Ref_zeros_21 hl (k := 1) rfl (by decide) (by decide) rfl (fun ls hl => ?_)
                    refine lv_goto (tgt := 5) hx hb d_Ref_zeros_24 (by decide) ?_
                    refine lv_iload_n hx hb d_Ref_zeros_5 rfl (lv_at hl 0 rfl) ?_
                    refine lv_if_lt (tgt := 27) hx hb d_Ref_zeros_6 (by decide) (fun h46 => ?_) (fun h46 => ?_)
                    · exact absurd h46 (by decide)
                    refine lv_iload_n hx hb d_Ref_zeros_9 rfl (lv_at hl 2 rfl) ?_
                    refine lv_iload_n hx hb d_Ref_zeros_10 rfl (lv_at hl 0 rfl) ?_
                    refine k_cSi (As := [.int p0, .int (22 : Int32)]) (rest := []) (wr := []) (wj := []) ⟨hx, hb, hml, hown, hB⟩ (c_Ref_bit l D p0 (22 : Int32)) yl_Ref_bit mw_725 hK hN hP hD hS hA [] [] [] [] rfl rfl rfl rfl (by decide +kernel) rfl hl.1 rfl (Nat.le_of_ble_eq_true rfl) ⟨Nat.le_of_ble_eq_true rfl, Nat.le_of_ble_eq_true rfl⟩ d_Ref_zeros_11 ⟨Nat.le_of_ble_eq_true rfl, Nat.le_of_ble_eq_true rfl⟩ (fun H locs hP hD hS => ?_)
                    refine lv_if_ne (tgt := 27) hx hb d_Ref_zeros_14 (by decide) (fun (h50 : ¬ (f_Ref_bit p0 (22 : Int32)) = (0 : Int32)) => ?_) (fun (h50 : (f_Ref_bit p0 (22 : Int32)) = (0 : Int32)) => ?_)
                    · refine lv_iload_n hx hb d_Ref_zeros_27 rfl (lv_at hl 1 rfl) ?_
                      have ef : f_Ref_zeros p0 = (9 : Int32) := by unfold f_Ref_zeros; rw [if_pos h5, if_pos h10, if_pos h15, if_pos h20, if_pos h25, if_pos h30, if_pos h35, if_pos h40, if_pos h45, if_neg h50]
                      exact k_iret hx hb hr hlocks hK hP hD hS [] rfl rfl (by rw [ef] <;> rfl) d_Ref_zeros_28
                    · refine lv_iload_n hx hb d_Ref_zeros_17 rfl (lv_at hl 1 rfl) ?_
                      refine lv_iconst (v := (1 : Int32)) hx hb d_Ref_zeros_18 (by decide) ?_
                      refine lv_iadd hx hb d_Ref_zeros_19 ?_
                      refine k_fold (10 : Int32) (by decide) ?_
                      refine lv_istore_n (lv' := [(1, .int (10 : Int32)), (2, .int (22 : Int32)), (0, .int p0)]) hx hb d_Ref_zeros_20 rfl hl (by decide) rfl (fun ls hl => ?_)
                      refine lv_iinc (v := (21 : Int32)) (lv' := [(2, .int (21 : Int32)), (1, .int (10 : Int32)), (0, .int p0)]) hx hb d_Ref_zeros_21 hl (k := 1) rfl (by decide) (by decide) rfl (fun ls hl => ?_)
                      refine lv_goto (tgt := 5) hx hb d_Ref_zeros_24 (by decide) ?_
                      refine lv_iload_n hx hb d_Ref_zeros_5 rfl (lv_at hl 0 rfl) ?_
                      refine lv_if_lt (tgt := 27) hx hb d_Ref_zeros_6 (by decide) (fun h51 => ?_) (fun h51 => ?_)
                      · exact absurd h51 (by decide)
                      refine lv_iload_n hx hb d_Ref_zeros_9 rfl (lv_at hl 2 rfl) ?_
                      refine lv_iload_n hx hb d_Ref_zeros_10 rfl (lv_at hl 0 rfl) ?_
                      refine k_cSi (As := [.int p0, .int (21 : Int32)]) (rest := []) (wr := []) (wj := []) ⟨hx, hb, hml, hown, hB⟩ (c_Ref_bit l D p0 (21 : Int32)) yl_Ref_bit mw_725 hK hN hP hD hS hA [] [] [] [] rfl rfl rfl rfl (by decide +kernel) rfl hl.1 rfl (Nat.le_of_ble_eq_true rfl) ⟨Nat.le_of_ble_eq_true rfl, Nat.le_of_ble_eq_true rfl⟩ d_Ref_zeros_11 ⟨Nat.le_of_ble_eq_true rfl, Nat.le_of_ble_eq_true rfl⟩ (fun H locs hP hD hS => ?_)
                      refine lv_if_ne (tgt := 27) hx hb d_Ref_zeros_14 (by decide) (fun (h55 : ¬ (f_Ref_bit p0 (21 : Int32)) = (0 : Int32)) => ?_) (fun (h55 : (f_Ref_bit p0 (21 : Int32)) = (0 : Int32)) => ?_)
                      · refine lv_iload_n hx hb d_Ref_zeros_27 rfl (lv_at hl 1 rfl) ?_
                        have ef : f_Ref_zeros p0 = (10 : Int32) := by unfold f_Ref_zeros; rw [if_pos h5, if_pos h10, if_pos h15, if_pos h20, if_pos h25, if_pos h30, if_pos h35, if_pos h40, if_pos h45, if_pos h50, if_neg h55]
                        exact k_iret hx hb hr hlocks hK hP hD hS [] rfl rfl (by rw [ef] <;> rfl) d_Ref_zeros_28
                      · refine lv_iload_n hx hb d_Ref_zeros_17 rfl (lv_at hl 1 rfl) ?_
                        refine lv_iconst (v := (1 : Int32)) hx hb d_Ref_zeros_18 (by decide) ?_
                        refine lv_iadd hx hb d_Ref_zeros_19 ?_
                        refine k_fold (11 : Int32) (by decide) ?_
                        refine lv_istore_n (lv' := [(1, .int (11 : Int32)), (2, .int (21 : Int32)), (0, .int p0)]) hx hb d_Ref_zeros_20 rfl hl (by decide) rfl (fun ls hl => ?_)
                        refine lv_iinc (v := (20 : Int32)) (lv' := [(2, .int (20 : Int32)), (1, .int (11 : Int32)), (0, .int p0)]) hx hb d_Ref_zeros_21 hl (k := 1) rfl (by decide) (by decide) rfl (fun ls hl => ?_)
                        refine lv_goto (tgt := 5) hx hb d_Ref_zeros_24 (by decide) ?_
                        refine lv_iload_n hx hb d_Ref_zeros_5 rfl (lv_at hl 0 rfl) ?_
                        refine lv_if_lt (tgt := 27) hx hb d_Ref_zeros_6 (by decide) (fun h56 => ?_) (fun h56 => ?_)
                        · exact absurd h56 (by decide)
                        refine lv_iload_n hx hb d_Ref_zeros_9 rfl (lv_at hl 2 rfl) ?_
                        refine lv_iload_n hx hb d_Ref_zeros_10 rfl (lv_at hl 0 rfl) ?_
                        refine k_cSi (As := [.int p0, .int (20 : Int32)]) (rest := []) (wr := []) (wj := []) ⟨hx, hb, hml, hown, hB⟩ (c_Ref_bit l D p0 (20 : Int32)) yl_Ref_bit mw_725 hK hN hP hD hS hA [] [] [] [] rfl rfl rfl rfl (by decide +kernel) rfl hl.1 rfl (Nat.le_of_ble_eq_true rfl) ⟨Nat.le_of_ble_eq_true rfl, Nat.le_of_ble_eq_true rfl⟩ d_Ref_zeros_11 ⟨Nat.le_of_ble_eq_true rfl, Nat.le_of_ble_eq_true rfl⟩ (fun H locs hP hD hS => ?_)
                        refine lv_if_ne (tgt := 27) hx hb d_Ref_zeros_14 (by decide) (fun (h60 : ¬ (f_Ref_bit p0 (20 : Int32)) = (0 : Int32)) => ?_) (fun (h60 : (f_Ref_bit p0 (20 : Int32)) = (0 : Int32)) => ?_)
                        · refine lv_iload_n hx hb d_Ref_zeros_27 rfl (lv_at hl 1 rfl) ?_
                          have ef : f_Ref_zeros p0 = (11 : Int32) := by unfold f_Ref_zeros; rw [if_pos h5, if_pos h10, if_pos h15, if_pos h20, if_pos h25, if_pos h30, if_pos h35, if_pos h40, if_pos h45, if_pos h50, if_pos h55, if_neg h60]
                          exact k_iret hx hb hr hlocks hK hP hD hS [] rfl rfl (by rw [ef] <;> rfl) d_Ref_zeros_28
                        · refine lv_iload_n hx hb d_Ref_zeros_17 rfl (lv_at hl 1 rfl) ?_
                          refine lv_iconst (v := (1 : Int32)) hx hb d_Ref_zeros_18 (by decide) ?_
                          refine lv_iadd hx hb d_Ref_zeros_19 ?_
                          refine k_fold (12 : Int32) (by decide) ?_
                          refine lv_istore_n (lv' := [(1, .int (12 : Int32)), (2, .int (20 : Int32)), (0, .int p0)]) hx hb d_Ref_zeros_20 rfl hl (by decide) rfl (fun ls hl => ?_)
                          refine lv_iinc (v := (19 : Int32)) (lv' := [(2, .int (19 : Int32)), (1, .int (12 : Int32)), (0, .int p0)]) hx hb d_Ref_zeros_21 hl (k := 1) rfl (by decide) (by decide) rfl (fun ls hl => ?_)
                          refine lv_goto (tgt := 5) hx hb d_Ref_zeros_24 (by decide) ?_
                          refine lv_iload_n hx hb d_Ref_zeros_5 rfl (lv_at hl 0 rfl) ?_
                          refine lv_if_lt (tgt := 27) hx hb d_Ref_zeros_6 (by decide) (fun h61 => ?_) (fun h61 => ?_)
                          · exact absurd h61 (by decide)
                          refine lv_iload_n hx hb d_Ref_zeros_9 rfl (lv_at hl 2 rfl) ?_
                          refine lv_iload_n hx hb d_Ref_zeros_10 rfl (lv_at hl 0 rfl) ?_
                          refine k_cSi (As := [.int p0, .int (19 : Int32)]) (rest := []) (wr := []) (wj := []) ⟨hx, hb, hml, hown, hB⟩ (c_Ref_bit l D p0 (19 : Int32)) yl_Ref_bit mw_725 hK hN hP hD hS hA [] [] [] [] rfl rfl rfl rfl (by decide +kernel) rfl hl.1 rfl (Nat.le_of_ble_eq_true rfl) ⟨Nat.le_of_ble_eq_true rfl, Nat.le_of_ble_eq_true rfl⟩ d_Ref_zeros_11 ⟨Nat.le_of_ble_eq_true rfl, Nat.le_of_ble_eq_true rfl⟩ (fun H locs hP hD hS => ?_)
                          refine lv_if_ne (tgt := 27) hx hb d_Ref_zeros_14 (by decide) (fun (h65 : ¬ (f_Ref_bit p0 (19 : Int32)) = (0 : Int32)) => ?_) (fun (h65 : (f_Ref_bit p0 (19 : Int32)) = (0 : Int32)) => ?_)
                          · refine lv_iload_n hx hb d_Ref_zeros_27 rfl (lv_at hl 1 rfl) ?_
                            have ef : f_Ref_zeros p0 = (12 : Int32) := by unfold f_Ref_zeros; rw [if_pos h5, if_pos h10, if_pos h15, if_pos h20, if_pos h25, if_pos h30, if_pos h35, if_pos h40, if_pos h45, if_pos h50, if_pos h55, if_pos h60, if_neg h65]
                            exact k_iret hx hb hr hlocks hK hP hD hS [] rfl rfl (by rw [ef] <;> rfl) d_Ref_zeros_28
                          · refine lv_iload_n hx hb d_Ref_zeros_17 rfl (lv_at hl 1 rfl) ?_
                            refine lv_iconst (v := (1 : Int32)) hx hb d_Ref_zeros_18 (by decide) ?_
                            refine lv_iadd hx hb d_Ref_zeros_19 ?_
                            refine k_fold (13 : Int32) (by decide) ?_
                            refine lv_istore_n (lv' := [(1, .int (13 : Int32)), (2, .int (19 : Int32)), (0, .int p0)]) hx hb d_Ref_zeros_20 rfl hl (by decide) rfl (fun ls hl => ?_)
                            refine lv_iinc (v := (18 : Int32)) (lv' := [(2, .int (18 : Int32)), (1, .int (13 : Int32)), (0, .int p0)]) hx hb d_Ref_zeros_21 hl (k := 1) rfl (by decide) (by decide) rfl (fun ls hl => ?_)
                            refine lv_goto (tgt := 5) hx hb d_Ref_zeros_24 (by decide) ?_
                            refine lv_iload_n hx hb d_Ref_zeros_5 rfl (lv_at hl 0 rfl) ?_
                            refine lv_if_lt (tgt := 27) hx hb d_Ref_zeros_6 (by decide) (fun h66 => ?_) (fun h66 => ?_)
                            · exact absurd h66 (by decide)
                            refine lv_iload_n hx hb d_Ref_zeros_9 rfl (lv_at hl 2 rfl) ?_
                            refine lv_iload_n hx hb d_Ref_zeros_10 rfl (lv_at hl 0 rfl) ?_
                            refine k_cSi (As := [.int p0, .int (18 : Int32)]) (rest := []) (wr := []) (wj := []) ⟨hx, hb, hml, hown, hB⟩ (c_Ref_bit l D p0 (18 : Int32)) yl_Ref_bit mw_725 hK hN hP hD hS hA [] [] [] [] rfl rfl rfl rfl (by decide +kernel) rfl hl.1 rfl (Nat.le_of_ble_eq_true rfl) ⟨Nat.le_of_ble_eq_true rfl, Nat.le_of_ble_eq_true rfl⟩ d_Ref_zeros_11 ⟨Nat.le_of_ble_eq_true rfl, Nat.le_of_ble_eq_true rfl⟩ (fun H locs hP hD hS => ?_)
                            refine lv_if_ne (tgt := 27) hx hb d_Ref_zeros_14 (by decide) (fun (h70 : ¬ (f_Ref_bit p0 (18 : Int32)) = (0 : Int32)) => ?_) (fun (h70 : (f_Ref_bit p0 (18 : Int32)) = (0 : Int32)) => ?_)
                            · refine lv_iload_n hx hb d_Ref_zeros_27 rfl (lv_at hl 1 rfl) ?_
                              have ef : f_Ref_zeros p0 = (13 : Int32) := by unfold f_Ref_zeros; rw [if_pos h5, if_pos h10, if_pos h15, if_pos h20, if_pos h25, if_pos h30, if_pos h35, if_pos h40, if_pos h45, if_pos h50, if_pos h55, if_pos h60, if_pos h65, if_neg h70]
                              exact k_iret hx hb hr hlocks hK hP hD hS [] rfl rfl (by rw [ef] <;> rfl) d_Ref_zeros_28
                            · refine lv_iload_n hx hb d_Ref_zeros_17 rfl (lv_at hl 1 rfl) ?_
                              refine lv_iconst (v := (1 : Int32)) hx hb d_Ref_zeros_18 (by decide) ?_
                              refine lv_iadd hx hb d_Ref_zeros_19 ?_
                              refine k_fold (14 : Int32) (by decide) ?_
                              refine lv_istore_n (lv' := [(1, .int (14 : Int32)), (2, .int (18 : Int32)), (0, .int p0)]) hx hb d_Ref_zeros_20 rfl hl (by decide) rfl (fun ls hl => ?_)
                              refine lv_iinc (v := (17 : Int32)) (lv' := [(2, .int (17 : Int32)), (1, .int (14 : Int32)), (0, .int p0)]) hx hb d_Ref_zeros_21 hl (k := 1) rfl (by decide) (by decide) rfl (fun ls hl => ?_)
                              refine lv_goto (tgt := 5) hx hb d_Ref_zeros_24 (by decide) ?_
                              refine lv_iload_n hx hb d_Ref_zeros_5 rfl (lv_at hl 0 rfl) ?_
                              refine lv_if_lt (tgt := 27) hx hb d_Ref_zeros_6 (by decide) (fun h71 => ?_) (fun h71 => ?_)
                              · exact absurd h71 (by decide)
                              refine lv_iload_n hx hb d_Ref_zeros_9 rfl (lv_at hl 2 rfl) ?_
                              refine lv_iload_n hx hb d_Ref_zeros_10 rfl (lv_at hl 0 rfl) ?_
                              refine k_cSi (As := [.int p0, .int (17 : Int32)]) (rest := []) (wr := []) (wj := []) ⟨hx, hb, hml, hown, hB⟩ (c_Ref_bit l D p0 (17 : Int32)) yl_Ref_bit mw_725 hK hN hP hD hS hA [] [] [] [] rfl rfl rfl rfl (by decide +kernel) rfl hl.1 rfl (Nat.le_of_ble_eq_true rfl) ⟨Nat.le_of_ble_eq_true rfl, Nat.le_of_ble_eq_true rfl⟩ d_Ref_zeros_11 ⟨Nat.le_of_ble_eq_true rfl, Nat.le_of_ble_eq_true rfl⟩ (fun H locs hP hD hS => ?_)
                              refine lv_if_ne (tgt := 27) hx hb d_Ref_zeros_14 (by decide) (fun (h75 : ¬ (f_Ref_bit p0 (17 : Int32)) = (0 : Int32)) => ?_) (fun (h75 : (f_Ref_bit p0 (17 : Int32)) = (0 : Int32)) => ?_)
                              · refine lv_iload_n hx hb d_Ref_zeros_27 rfl (lv_at hl 1 rfl) ?_
                                have ef : f_Ref_zeros p0 = (14 : Int32) := by unfold f_Ref_zeros; rw [if_pos h5, if_pos h10, if_pos h15, if_pos h20, if_pos h25, if_pos h30, if_pos h35, if_pos h40, if_pos h45, if_pos h50, if_pos h55, if_pos h60, if_pos h65, if_pos h70, if_neg h75]
                                exact k_iret hx hb hr hlocks hK hP hD hS [] rfl rfl (by rw [ef] <;> rfl) d_Ref_zeros_28
                              · refine lv_iload_n hx hb d_Ref_zeros_17 rfl (lv_at hl 1 rfl) ?_
                                refine lv_iconst (v := (1 : Int32)) hx hb d_Ref_zeros_18 (by decide) ?_
                                refine lv_iadd hx hb d_Ref_zeros_19 ?_
                                refine k_fold (15 : Int32) (by decide) ?_
                                refine lv_istore_n (lv' := [(1, .int (15 : Int32)), (2, .int (17 : Int32)), (0, .int p0)]) hx hb d_Ref_zeros_20 rfl hl (by decide) rfl (fun ls hl => ?_)
                                refine lv_iinc (v := (16 : Int32)) (lv' := [(2, .int (16 : Int32)), (1, .int (15 : Int32)), (0, .int p0)]) hx hb d_Ref_zeros_21 hl (k := 1) rfl (by decide) (by decide) rfl (fun ls hl => ?_)
                                refine lv_goto (tgt := 5) hx hb d_Ref_zeros_24 (by decide) ?_
                                refine lv_iload_n hx hb d_Ref_zeros_5 rfl (lv_at hl 0 rfl) ?_
                                refine lv_if_lt (tgt := 27) hx hb d_Ref_zeros_6 (by decide) (fun h76 => ?_) (fun h76 => ?_)
                                · exact absurd h76 (by decide)
                                refine lv_iload_n hx hb d_Ref_zeros_9 rfl (lv_at hl 2 rfl) ?_
                                refine lv_iload_n hx hb d_Ref_zeros_10 rfl (lv_at hl 0 rfl) ?_
                                refine k_cSi (As := [.int p0, .int (16 : Int32)]) (rest := []) (wr := []) (wj := []) ⟨hx, hb, hml, hown, hB⟩ (c_Ref_bit l D p0 (16 : Int32)) yl_Ref_bit mw_725 hK hN hP hD hS hA [] [] [] [] rfl rfl rfl rfl (by decide +kernel) rfl hl.1 rfl (Nat.le_of_ble_eq_true rfl) ⟨Nat.le_of_ble_eq_true rfl, Nat.le_of_ble_eq_true rfl⟩ d_Ref_zeros_11 ⟨Nat.le_of_ble_eq_true rfl, Nat.le_of_ble_eq_true rfl⟩ (fun H locs hP hD hS => ?_)
                                refine lv_if_ne (tgt := 27) hx hb d_Ref_zeros_14 (by decide) (fun (h80 : ¬ (f_Ref_bit p0 (16 : Int32)) = (0 : Int32)) => ?_) (fun (h80 : (f_Ref_bit p0 (16 : Int32)) = (0 : Int32)) => ?_)
                                · refine lv_iload_n hx hb d_Ref_zeros_27 rfl (lv_at hl 1 rfl) ?_
                                  have ef : f_Ref_zeros p0 = (15 : Int32) := by unfold f_Ref_zeros; rw [if_pos h5, if_pos h10, if_pos h15, if_pos h20, if_pos h25, if_pos h30, if_pos h35, if_pos h40, if_pos h45, if_pos h50, if_pos h55, if_pos h60, if_pos h65, if_pos h70, if_pos h75, if_neg h80]
                                  exact k_iret hx hb hr hlocks hK hP hD hS [] rfl rfl (by rw [ef] <;> rfl) d_Ref_zeros_28
                                · refine lv_iload_n hx hb d_Ref_zeros_17 rfl (lv_at hl 1 rfl) ?_
                                  refine lv_iconst (v := (1 : Int32)) hx hb d_Ref_zeros_18 (by decide) ?_
                                  refine lv_iadd hx hb d_Ref_zeros_19 ?_
                                  refine k_fold (16 : Int32) (by decide) ?_
                                  refine lv_istore_n (lv' := [(1, .int (16 : Int32)), (2, .int (16 : Int32)), (0, .int p0)]) hx hb d_Ref_zeros_20 rfl hl (by decide) rfl (fun ls hl => ?_)
                                  refine lv_iinc (v := (15 : Int32)) (lv' := [(2, .int (15 : Int32)), (1, .int (16 : Int32)), (0, .int p0)]) hx hb d_Ref_zeros_21 hl (k := 1) rfl (by decide) (by decide) rfl (fun ls hl => ?_)
                                  refine lv_goto (tgt := 5) hx hb d_Ref_zeros_24 (by decide) ?_
                                  refine lv_iload_n hx hb d_Ref_zeros_5 rfl (lv_at hl 0 rfl) ?_
                                  refine lv_if_lt (tgt := 27) hx hb d_Ref_zeros_6 (by decide) (fun h81 => ?_) (fun h81 => ?_)
                                  · exact absurd h81 (by decide)
                                  refine lv_iload_n hx hb d_Ref_zeros_9 rfl (lv_at hl 2 rfl) ?_
                                  refine lv_iload_n hx hb d_Ref_zeros_10 rfl (lv_at hl 0 rfl) ?_
                                  refine k_cSi (As := [.int p0, .int (15 : Int32)]) (rest := []) (wr := []) (wj := []) ⟨hx, hb, hml, hown, hB⟩ (c_Ref_bit l D p0 (15 : Int32)) yl_Ref_bit mw_725 hK hN hP hD hS hA [] [] [] [] rfl rfl rfl rfl (by decide +kernel) rfl hl.1 rfl (Nat.le_of_ble_eq_true rfl) ⟨Nat.le_of_ble_eq_true rfl, Nat.le_of_ble_eq_true rfl⟩ d_Ref_zeros_11 ⟨Nat.le_of_ble_eq_true rfl, Nat.le_of_ble_eq_true rfl⟩ (fun H locs hP hD hS => ?_)
                                  refine lv_if_ne (tgt := 27) hx hb d_Ref_zeros_14 (by decide) (fun (h85 : ¬ (f_Ref_bit p0 (15 : Int32)) = (0 : Int32)) => ?_) (fun (h85 : (f_Ref_bit p0 (15 : Int32)) = (0 : Int32)) => ?_)
                                  · refine lv_iload_n hx hb d_Ref_zeros_27 rfl (lv_at hl 1 rfl) ?_
                                    have ef : f_Ref_zeros p0 = (16 : Int32) := by unfold f_Ref_zeros; rw [if_pos h5, if_pos h10, if_pos h15, if_pos h20, if_pos h25, if_pos h30, if_pos h35, if_pos h40, if_pos h45, if_pos h50, if_pos h55, if_pos h60, if_pos h65, if_pos h70, if_pos h75, if_pos h80, if_neg h85]
                                    exact k_iret hx hb hr hlocks hK hP hD hS [] rfl rfl (by rw [ef] <;> rfl) d_Ref_zeros_28
                                  · refine lv_iload_n hx hb d_Ref_zeros_17 rfl (lv_at hl 1 rfl) ?_
                                    refine lv_iconst (v := (1 : Int32)) hx hb d_Ref_zeros_18 (by decide) ?_
                                    refine lv_iadd hx hb d_Ref_zeros_19 ?_
                                    refine k_fold (17 : Int32) (by decide) ?_
                                    refine lv_istore_n (lv' := [(1, .int (17 : Int32)), (2, .int (15 : Int32)), (0, .int p0)]) hx hb d_Ref_zeros_20 rfl hl (by decide) rfl (fun ls hl => ?_)
                                    refine lv_iinc (v := (14 : Int32)) (lv' := [(2, .int (14 : Int32)), (1, .int (17 : Int32)), (0, .int p0)]) hx hb d_Ref_zeros_21 hl (k := 1) rfl (by decide) (by decide) rfl (fun ls hl => ?_)
                                    refine lv_goto (tgt := 5) hx hb d_Ref_zeros_24 (by decide) ?_
                                    refine lv_iload_n hx hb d_Ref_zeros_5 rfl (lv_at hl 0 rfl) ?_
                                    refine lv_if_lt (tgt := 27) hx hb d_Ref_zeros_6 (by decide) (fun h86 => ?_) (fun h86 => ?_)
                                    · exact absurd h86 (by decide)
                                    refine lv_iload_n hx hb d_Ref_zeros_9 rfl (lv_at hl 2 rfl) ?_
                                    refine lv_iload_n hx hb d_Ref_zeros_10 rfl (lv_at hl 0 rfl) ?_
                                    refine k_cSi (As := [.int p0, .int (14 : Int32)]) (rest := []) (wr := []) (wj := []) ⟨hx, hb, hml, hown, hB⟩ (c_Ref_bit l D p0 (14 : Int32)) yl_Ref_bit mw_725 hK hN hP hD hS hA [] [] [] [] rfl rfl rfl rfl (by decide +kernel) rfl hl.1 rfl (Nat.le_of_ble_eq_true rfl) ⟨Nat.le_of_ble_eq_true rfl, Nat.le_of_ble_eq_true rfl⟩ d_Ref_zeros_11 ⟨Nat.le_of_ble_eq_true rfl, Nat.le_of_ble_eq_true rfl⟩ (fun H locs hP hD hS => ?_)
                                    refine lv_if_ne (tgt := 27) hx hb d_Ref_zeros_14 (by decide) (fun (h90 : ¬ (f_Ref_bit p0 (14 : Int32)) = (0 : Int32)) => ?_) (fun (h90 : (f_Ref_bit p0 (14 : Int32)) = (0 : Int32)) => ?_)
                                    · refine lv_iload_n hx hb d_Ref_zeros_27 rfl (lv_at hl 1 rfl) ?_
                                      have ef : f_Ref_zeros p0 = (17 : Int32) := by unfold f_Ref_zeros; rw [if_pos h5, if_pos h10, if_pos h15, if_pos h20, if_pos h25, if_pos h30, if_pos h35, if_pos h40, if_pos h45, if_pos h50, if_pos h55, if_pos h60, if_pos h65, if_pos h70, if_pos h75, if_pos h80, if_pos h85, if_neg h90]
                                      exact k_iret hx hb hr hlocks hK hP hD hS [] rfl rfl (by rw [ef] <;> rfl) d_Ref_zeros_28
                                    · refine lv_iload_n hx hb d_Ref_zeros_17 rfl (lv_at hl 1 rfl) ?_
                                      refine lv_iconst (v := (1 : Int32)) hx hb d_Ref_zeros_18 (by decide) ?_
                                      refine lv_iadd hx hb d_Ref_zeros_19 ?_
                                      refine k_fold (18 : Int32) (by decide) ?_
                                      refine lv_istore_n (lv' := [(1, .int (18 : Int32)), (2, .int (14 : Int32)), (0, .int p0)]) hx hb d_Ref_zeros_20 rfl hl (by decide) rfl (fun ls hl => ?_)
                                      refine lv_iinc (v := (13 : Int32)) (lv' := [(2, .int (13 : Int32)), (1, .int (18 : Int32)), (0, .int p0)]) hx hb d_Ref_zeros_21 hl (k := 1) rfl (by decide) (by decide) rfl (fun ls hl => ?_)
                                      refine lv_goto (tgt := 5) hx hb d_Ref_zeros_24 (by decide) ?_
                                      refine lv_iload_n hx hb d_Ref_zeros_5 rfl (lv_at hl 0 rfl) ?_
                                      refine lv_if_lt (tgt := 27) hx hb d_Ref_zeros_6 (by decide) (fun h91 => ?_) (fun h91 => ?_)
                                      · exact absurd h91 (by decide)
                                      refine lv_iload_n hx hb d_Ref_zeros_9 rfl (lv_at hl 2 rfl) ?_
                                      refine lv_iload_n hx hb d_Ref_zeros_10 rfl (lv_at hl 0 rfl) ?_
                                      refine k_cSi (As := [.int p0, .int (13 : Int32)]) (rest := []) (wr := []) (wj := []) ⟨hx, hb, hml, hown, hB⟩ (c_Ref_bit l D p0 (13 : Int32)) yl_Ref_bit mw_725 hK hN hP hD hS hA [] [] [] [] rfl rfl rfl rfl (by decide +kernel) rfl hl.1 rfl (Nat.le_of_ble_eq_true rfl) ⟨Nat.le_of_ble_eq_true rfl, Nat.le_of_ble_eq_true rfl⟩ d_Ref_zeros_11 ⟨Nat.le_of_ble_eq_true rfl, Nat.le_of_ble_eq_true rfl⟩ (fun H locs hP hD hS => ?_)
                                      refine lv_if_ne (tgt := 27) hx hb d_Ref_zeros_14 (by decide) (fun (h95 : ¬ (f_Ref_bit p0 (13 : Int32)) = (0 : Int32)) => ?_) (fun (h95 : (f_Ref_bit p0 (13 : Int32)) = (0 : Int32)) => ?_)
                                      · refine lv_iload_n hx hb d_Ref_zeros_27 rfl (lv_at hl 1 rfl) ?_
                                        have ef : f_Ref_zeros p0 = (18 : Int32) := by unfold f_Ref_zeros; rw [if_pos h5, if_pos h10, if_pos h15, if_pos h20, if_pos h25, if_pos h30, if_pos h35, if_pos h40, if_pos h45, if_pos h50, if_pos h55, if_pos h60, if_pos h65, if_pos h70, if_pos h75, if_pos h80, if_pos h85, if_pos h90, if_neg h95]
                                        exact k_iret hx hb hr hlocks hK hP hD hS [] rfl rfl (by rw [ef] <;> rfl) d_Ref_zeros_28
                                      · refine lv_iload_n hx hb d_Ref_zeros_17 rfl (lv_at hl 1 rfl) ?_
                                        refine lv_iconst (v := (1 : Int32)) hx hb d_Ref_zeros_18 (by decide) ?_
                                        refine lv_iadd hx hb d_Ref_zeros_19 ?_
                                        refine k_fold (19 : Int32) (by decide) ?_
                                        refine lv_istore_n (lv' := [(1, .int (19 : Int32)), (2, .int (13 : Int32)), (0, .int p0)]) hx hb d_Ref_zeros_20 rfl hl (by decide) rfl (fun ls hl => ?_)
                                        refine lv_iinc (v := (12 : Int32)) (lv' := [(2, .int (12 : Int32)), (1, .int (19 : Int32)), (0, .int p0)]) hx hb d_Ref_zeros_21 hl (k := 1) rfl (by decide) (by decide) rfl (fun ls hl => ?_)
                                        refine lv_goto (tgt := 5) hx hb d_Ref_zeros_24 (by decide) ?_
                                        refine lv_iload_n hx hb d_Ref_zeros_5 rfl (lv_at hl 0 rfl) ?_
                                        refine lv_if_lt (tgt := 27) hx hb d_Ref_zeros_6 (by decide) (fun h96 => ?_) (fun h96 => ?_)
                                        · exact absurd h96 (by decide)
                                        refine lv_iload_n hx hb d_Ref_zeros_9 rfl (lv_at hl 2 rfl) ?_
                                        refine lv_iload_n hx hb d_Ref_zeros_10 rfl (lv_at hl 0 rfl) ?_
                                        refine k_cSi (As := [.int p0, .int (12 : Int32)]) (rest := []) (wr := []) (wj := []) ⟨hx, hb, hml, hown, hB⟩ (c_Ref_bit l D p0 (12 : Int32)) yl_Ref_bit mw_725 hK hN hP hD hS hA [] [] [] [] rfl rfl rfl rfl (by decide +kernel) rfl hl.1 rfl (Nat.le_of_ble_eq_true rfl) ⟨Nat.le_of_ble_eq_true rfl, Nat.le_of_ble_eq_true rfl⟩ d_Ref_zeros_11 ⟨Nat.le_of_ble_eq_true rfl, Nat.le_of_ble_eq_true rfl⟩ (fun H locs hP hD hS => ?_)
                                        refine lv_if_ne (tgt := 27) hx hb d_Ref_zeros_14 (by decide) (fun (h100 : ¬ (f_Ref_bit p0 (12 : Int32)) = (0 : Int32)) => ?_) (fun (h100 : (f_Ref_bit p0 (12 : Int32)) = (0 : Int32)) => ?_)
                                        · refine lv_iload_n hx hb d_Ref_zeros_27 rfl (lv_at hl 1 rfl) ?_
                                          have ef : f_Ref_zeros p0 = (19 : Int32) := by unfold f_Ref_zeros; rw [if_pos h5, if_pos h10, if_pos h15, if_pos h20, if_pos h25, if_pos h30, if_pos h35, if_pos h40, if_pos h45, if_pos h50, if_pos h55, if_pos h60, if_pos h65, if_pos h70, if_pos h75, if_pos h80, if_pos h85, if_pos h90, if_pos h95, if_neg h100]
                                          exact k_iret hx hb hr hlocks hK hP hD hS [] rfl rfl (by rw [ef] <;> rfl) d_Ref_zeros_28
                                        · refine lv_iload_n hx hb d_Ref_zeros_17 rfl (lv_at hl 1 rfl) ?_
                                          refine lv_iconst (v := (1 : Int32)) hx hb d_Ref_zeros_18 (by decide) ?_
                                          refine lv_iadd hx hb d_Ref_zeros_19 ?_
                                          refine k_fold (20 : Int32) (by decide) ?_
                                          refine lv_istore_n (lv' := [(1, .int (20 : Int32)), (2, .int (12 : Int32)), (0, .int p0)]) hx hb d_Ref_zeros_20 rfl hl (by decide) rfl (fun ls hl => ?_)
                                          refine lv_iinc (v := (11 : Int32)) (lv' := [(2, .int (11 : Int32)), (1, .int (20 : Int32)), (0, .int p0)]) hx hb d_Ref_zeros_21 hl (k := 1) rfl (by decide) (by decide) rfl (fun ls hl => ?_)
                                          refine lv_goto (tgt := 5) hx hb d_Ref_zeros_24 (by decide) ?_
                                          refine lv_iload_n hx hb d_Ref_zeros_5 rfl (lv_at hl 0 rfl) ?_
                                          refine lv_if_lt (tgt := 27) hx hb d_Ref_zeros_6 (by decide) (fun h101 => ?_) (fun h101 => ?_)
                                          · exact absurd h101 (by decide)
                                          refine lv_iload_n hx hb d_Ref_zeros_9 rfl (lv_at hl 2 rfl) ?_
                                          refine lv_iload_n hx hb d_Ref_zeros_10 rfl (lv_at hl 0 rfl) ?_
                                          refine k_cSi (As := [.int p0, .int (11 : Int32)]) (rest := []) (wr := []) (wj := []) ⟨hx, hb, hml, hown, hB⟩ (c_Ref_bit l D p0 (11 : Int32)) yl_Ref_bit mw_725 hK hN hP hD hS hA [] [] [] [] rfl rfl rfl rfl (by decide +kernel) rfl hl.1 rfl (Nat.le_of_ble_eq_true rfl) ⟨Nat.le_of_ble_eq_true rfl, Nat.le_of_ble_eq_true rfl⟩ d_Ref_zeros_11 ⟨Nat.le_of_ble_eq_true rfl, Nat.le_of_ble_eq_true rfl⟩ (fun H locs hP hD hS => ?_)
                                          refine lv_if_ne (tgt := 27) hx hb d_Ref_zeros_14 (by decide) (fun (h105 : ¬ (f_Ref_bit p0 (11 : Int32)) = (0 : Int32)) => ?_) (fun (h105 : (f_Ref_bit p0 (11 : Int32)) = (0 : Int32)) => ?_)
                                          · refine lv_iload_n hx hb d_Ref_zeros_27 rfl (lv_at hl 1 rfl) ?_
                                            have ef : f_Ref_zeros p0 = (20 : Int32) := by unfold f_Ref_zeros; rw [if_pos h5, if_pos h10, if_pos h15, if_pos h20, if_pos h25, if_pos h30, if_pos h35, if_pos h40, if_pos h45, if_pos h50, if_pos h55, if_pos h60, if_pos h65, if_pos h70, if_pos h75, if_pos h80, if_pos h85, if_pos h90, if_pos h95, if_pos h100, if_neg h105]
                                            exact k_iret hx hb hr hlocks hK hP hD hS [] rfl rfl (by rw [ef] <;> rfl) d_Ref_zeros_28
                                          · refine lv_iload_n hx hb d_Ref_zeros_17 rfl (lv_at hl 1 rfl) ?_
                                            refine lv_iconst (v := (1 : Int32)) hx hb d_Ref_zeros_18 (by decide) ?_
                                            refine lv_iadd hx hb d_Ref_zeros_19 ?_
                                            refine k_fold (21 : Int32) (by decide) ?_
                                            refine lv_istore_n (lv' := [(1, .int (21 : Int32)), (2, .int (11 : Int32)), (0, .int p0)]) hx hb d_Ref_zeros_20 rfl hl (by decide) rfl (fun ls hl => ?_)
                                            refine lv_iinc (v := (10 : Int32)) (lv' := [(2, .int (10 : Int32)), (1, .int (21 : Int32)), (0, .int p0)]) hx hb d_Ref_zeros_21 hl (k := 1) rfl (by decide) (by decide) rfl (fun ls hl => ?_)
                                            refine lv_goto (tgt := 5) hx hb d_Ref_zeros_24 (by decide) ?_
                                            refine lv_iload_n hx hb d_Ref_zeros_5 rfl (lv_at hl 0 rfl) ?_
                                            refine lv_if_lt (tgt := 27) hx hb d_Ref_zeros_6 (by decide) (fun h106 => ?_) (fun h106 => ?_)
                                            · exact absurd h106 (by decide)
                                            refine lv_iload_n hx hb d_Ref_zeros_9 rfl (lv_at hl 2 rfl) ?_
                                            refine lv_iload_n hx hb d_Ref_zeros_10 rfl (lv_at hl 0 rfl) ?_
                                            refine k_cSi (As := [.int p0, .int (10 : Int32)]) (rest := []) (wr := []) (wj := []) ⟨hx, hb, hml, hown, hB⟩ (c_Ref_bit l D p0 (10 : Int32)) yl_Ref_bit mw_725 hK hN hP hD hS hA [] [] [] [] rfl rfl rfl rfl (by decide +kernel) rfl hl.1 rfl (Nat.le_of_ble_eq_true rfl) ⟨Nat.le_of_ble_eq_true rfl, Nat.le_of_ble_eq_true rfl⟩ d_Ref_zeros_11 ⟨Nat.le_of_ble_eq_true rfl, Nat.le_of_ble_eq_true rfl⟩ (fun H locs hP hD hS => ?_)
                                            refine lv_if_ne (tgt := 27) hx hb d_Ref_zeros_14 (by decide) (fun (h110 : ¬ (f_Ref_bit p0 (10 : Int32)) = (0 : Int32)) => ?_) (fun (h110 : (f_Ref_bit p0 (10 : Int32)) = (0 : Int32)) => ?_)
                                            · refine lv_iload_n hx hb d_Ref_zeros_27 rfl (lv_at hl 1 rfl) ?_
                                              have ef : f_Ref_zeros p0 = (21 : Int32) := by unfold f_Ref_zeros; rw [if_pos h5, if_pos h10, if_pos h15, if_pos h20, if_pos h25, if_pos h30, if_pos h35, if_pos h40, if_pos h45, if_pos h50, if_pos h55, if_pos h60, if_pos h65, if_pos h70, if_pos h75, if_pos h80, if_pos h85, if_pos h90, if_pos h95, if_pos h100, if_pos h105, if_neg h110]
                                              exact k_iret hx hb hr hlocks hK hP hD hS [] rfl rfl (by rw [ef] <;> rfl) d_Ref_zeros_28
                                            · refine lv_iload_n hx hb d_Ref_zeros_17 rfl (lv_at hl 1 rfl) ?_
                                              refine lv_iconst (v := (1 : Int32)) hx hb d_Ref_zeros_18 (by decide) ?_
                                              refine lv_iadd hx hb d_Ref_zeros_19 ?_
                                              refine k_fold (22 : Int32) (by decide) ?_
                                              refine lv_istore_n (lv' := [(1, .int (22 : Int32)), (2, .int (10 : Int32)), (0, .int p0)]) hx hb d_Ref_zeros_20 rfl hl (by decide) rfl (fun ls hl => ?_)
                                              refine lv_iinc (v := (9 : Int32)) (lv' := [(2, .int (9 : Int32)), (1, .int (22 : Int32)), (0, .int p0)]) hx hb d_Ref_zeros_21 hl (k := 1) rfl (by decide) (by decide) rfl (fun ls hl => ?_)
                                              refine lv_goto (tgt := 5) hx hb d_Ref_zeros_24 (by decide) ?_
                                              refine lv_iload_n hx hb d_Ref_zeros_5 rfl (lv_at hl 0 rfl) ?_
                                              refine lv_if_lt (tgt := 27) hx hb d_Ref_zeros_6 (by decide) (fun h111 => ?_) (fun h111 => ?_)
                                              · exact absurd h111 (by decide)
                                              refine lv_iload_n hx hb d_Ref_zeros_9 rfl (lv_at hl 2 rfl) ?_
                                              refine lv_iload_n hx hb d_Ref_zeros_10 rfl (lv_at hl 0 rfl) ?_
                                              refine k_cSi (As := [.int p0, .int (9 : Int32)]) (rest := []) (wr := []) (wj := []) ⟨hx, hb, hml, hown, hB⟩ (c_Ref_bit l D p0 (9 : Int32)) yl_Ref_bit mw_725 hK hN hP hD hS hA [] [] [] [] rfl rfl rfl rfl (by decide +kernel) rfl hl.1 rfl (Nat.le_of_ble_eq_true rfl) ⟨Nat.le_of_ble_eq_true rfl, Nat.le_of_ble_eq_true rfl⟩ d_Ref_zeros_11 ⟨Nat.le_of_ble_eq_true rfl, Nat.le_of_ble_eq_true rfl⟩ (fun H locs hP hD hS => ?_)
                                              refine lv_if_ne (tgt := 27) hx hb d_Ref_zeros_14 (by decide) (fun (h115 : ¬ (f_Ref_bit p0 (9 : Int32)) = (0 : Int32)) => ?_) (fun (h115 : (f_Ref_bit p0 (9 : Int32)) = (0 : Int32)) => ?_)
                                              · refine lv_iload_n hx hb d_Ref_zeros_27 rfl (lv_at hl 1 rfl) ?_
                                                have ef : f_Ref_zeros p0 = (22 : Int32) := by unfold f_Ref_zeros; rw [if_pos h5, if_pos h10, if_pos h15, if_pos h20, if_pos h25, if_pos h30, if_pos h35, if_pos h40, if_pos h45, if_pos h50, if_pos h55, if_pos h60, if_pos h65, if_pos h70, if_pos h75, if_pos h80, if_pos h85, if_pos h90, if_pos h95, if_pos h100, if_pos h105, if_pos h110, if_neg h115]
                                                exact k_iret hx hb hr hlocks hK hP hD hS [] rfl rfl (by rw [ef] <;> rfl) d_Ref_zeros_28
                                              · refine lv_iload_n hx hb d_Ref_zeros_17 rfl (lv_at hl 1 rfl) ?_
                                                refine lv_iconst (v := (1 : Int32)) hx hb d_Ref_zeros_18 (by decide) ?_
                                                refine lv_iadd hx hb d_Ref_zeros_19 ?_
                                                refine k_fold (23 : Int32) (by decide) ?_
                                                refine lv_istore_n (lv' := [(1, .int (23 : Int32)), (2, .int (9 : Int32)), (0, .int p0)]) hx hb d_Ref_zeros_20 rfl hl (by decide) rfl (fun ls hl => ?_)
                                                refine lv_iinc (v := (8 : Int32)) (lv' := [(2, .int (8 : Int32)), (1, .int (23 : Int32)), (0, .int p0)]) hx hb d_Ref_zeros_21 hl (k := 1) rfl (by decide) (by decide) rfl (fun ls hl => ?_)
                                                refine lv_goto (tgt := 5) hx hb d_Ref_zeros_24 (by decide) ?_
                                                refine lv_iload_n hx hb d_Ref_zeros_5 rfl (lv_at hl 0 rfl) ?_
                                                refine lv_if_lt (tgt := 27) hx hb d_Ref_zeros_6 (by decide) (fun h116 => ?_) (fun h116 => ?_)
                                                · exact absurd h116 (by decide)
                                                refine lv_iload_n hx hb d_Ref_zeros_9 rfl (lv_at hl 2 rfl) ?_
                                                refine lv_iload_n hx hb d_Ref_zeros_10 rfl (lv_at hl 0 rfl) ?_
                                                refine k_cSi (As := [.int p0, .int (8 : Int32)]) (rest := []) (wr := []) (wj := []) ⟨hx, hb, hml, hown, hB⟩ (c_Ref_bit l D p0 (8 : Int32)) yl_Ref_bit mw_725 hK hN hP hD hS hA [] [] [] [] rfl rfl rfl rfl (by decide +kernel) rfl hl.1 rfl (Nat.le_of_ble_eq_true rfl) ⟨Nat.le_of_ble_eq_true rfl, Nat.le_of_ble_eq_true rfl⟩ d_Ref_zeros_11 ⟨Nat.le_of_ble_eq_true rfl, Nat.le_of_ble_eq_true rfl⟩ (fun H locs hP hD hS => ?_)
                                                refine lv_if_ne (tgt := 27) hx hb d_Ref_zeros_14 (by decide) (fun (h120 : ¬ (f_Ref_bit p0 (8 : Int32)) = (0 : Int32)) => ?_) (fun (h120 : (f_Ref_bit p0 (8 : Int32)) = (0 : Int32)) => ?_)
                                                · refine lv_iload_n hx hb d_Ref_zeros_27 rfl (lv_at hl 1 rfl) ?_
                                                  have ef : f_Ref_zeros p0 = (23 : Int32) := by unfold f_Ref_zeros; rw [if_pos h5, if_pos h10, if_pos h15, if_pos h20, if_pos h25, if_pos h30, if_pos h35, if_pos h40, if_pos h45, if_pos h50, if_pos h55, if_pos h60, if_pos h65, if_pos h70, if_pos h75, if_pos h80, if_pos h85, if_pos h90, if_pos h95, if_pos h100, if_pos h105, if_pos h110, if_pos h115, if_neg h120]
                                                  exact k_iret hx hb hr hlocks hK hP hD hS [] rfl rfl (by rw [ef] <;> rfl) d_Ref_zeros_28
                                                · refine lv_iload_n hx hb d_Ref_zeros_17 rfl (lv_at hl 1 rfl) ?_
                                                  refine lv_iconst (v := (1 : Int32)) hx hb d_Ref_zeros_18 (by decide) ?_
                                                  refine lv_iadd hx hb d_Ref_zeros_19 ?_
                                                  refine k_fold (24 : Int32) (by decide) ?_
                                                  refine lv_istore_n (lv' := [(1, .int (24 : Int32)), (2, .int (8 : Int32)), (0, .int p0)]) hx hb d_Ref_zeros_20 rfl hl (by decide) rfl (fun ls hl => ?_)
                                                  refine lv_iinc (v := (7 : Int32)) (lv' := [(2, .int (7 : Int32)), (1, .int (24 : Int32)), (0, .int p0)]) hx hb d_Ref_zeros_21 hl (k := 1) rfl (by decide) (by decide) rfl (fun ls hl => ?_)
                                                  refine lv_goto (tgt := 5) hx hb d_Ref_zeros_24 (by decide) ?_
                                                  refine lv_iload_n hx hb d_Ref_zeros_5 rfl (lv_at hl 0 rfl) ?_
                                                  refine lv_if_lt (tgt := 27) hx hb d_Ref_zeros_6 (by decide) (fun h121 => ?_) (fun h121 => ?_)
                                                  · exact absurd h121 (by decide)
                                                  refine lv_iload_n hx hb d_Ref_zeros_9 rfl (lv_at hl 2 rfl) ?_
                                                  refine lv_iload_n hx hb d_Ref_zeros_10 rfl (lv_at hl 0 rfl) ?_
                                                  refine k_cSi (As := [.int p0, .int (7 : Int32)]) (rest := []) (wr := []) (wj := []) ⟨hx, hb, hml, hown, hB⟩ (c_Ref_bit l D p0 (7 : Int32)) yl_Ref_bit mw_725 hK hN hP hD hS hA [] [] [] [] rfl rfl rfl rfl (by decide +kernel) rfl hl.1 rfl (Nat.le_of_ble_eq_true rfl) ⟨Nat.le_of_ble_eq_true rfl, Nat.le_of_ble_eq_true rfl⟩ d_Ref_zeros_11 ⟨Nat.le_of_ble_eq_true rfl, Nat.le_of_ble_eq_true rfl⟩ (fun H locs hP hD hS => ?_)
                                                  refine lv_if_ne (tgt := 27) hx hb d_Ref_zeros_14 (by decide) (fun (h125 : ¬ (f_Ref_bit p0 (7 : Int32)) = (0 : Int32)) => ?_) (fun (h125 : (f_Ref_bit p0 (7 : Int32)) = (0 : Int32)) => ?_)
                                                  · refine lv_iload_n hx hb d_Ref_zeros_27 rfl (lv_at hl 1 rfl) ?_
                                                    have ef : f_Ref_zeros p0 = (24 : Int32) := by unfold f_Ref_zeros; rw [if_pos h5, if_pos h10, if_pos h15, if_pos h20, if_pos h25, if_pos h30, if_pos h35, if_pos h40, if_pos h45, if_pos h50, if_pos h55, if_pos h60, if_pos h65, if_pos h70, if_pos h75, if_pos h80, if_pos h85, if_pos h90, if_pos h95, if_pos h100, if_pos h105, if_pos h110, if_pos h115, if_pos h120, if_neg h125]
                                                    exact k_iret hx hb hr hlocks hK hP hD hS [] rfl rfl (by rw [ef] <;> rfl) d_Ref_zeros_28
                                                  · refine lv_iload_n hx hb d_Ref_zeros_17 rfl (lv_at hl 1 rfl) ?_
                                                    refine lv_iconst (v := (1 : Int32)) hx hb d_Ref_zeros_18 (by decide) ?_
                                                    refine lv_iadd hx hb d_Ref_zeros_19 ?_
                                                    refine k_fold (25 : Int32) (by decide) ?_
                                                    refine lv_istore_n (lv' := [(1, .int (25 : Int32)), (2, .int (7 : Int32)), (0, .int p0)]) hx hb d_Ref_zeros_20 rfl hl (by decide) rfl (fun ls hl => ?_)
                                                    refine lv_iinc (v := (6 : Int32)) (lv' := [(2, .int (6 : Int32)), (1, .int (25 : Int32)), (0, .int p0)]) hx hb d_Ref_zeros_21 hl (k := 1) rfl (by decide) (by decide) rfl (fun ls hl => ?_)
                                                    refine lv_goto (tgt := 5) hx hb d_Ref_zeros_24 (by decide) ?_
                                                    refine lv_iload_n hx hb d_Ref_zeros_5 rfl (lv_at hl 0 rfl) ?_
                                                    refine lv_if_lt (tgt := 27) hx hb d_Ref_zeros_6 (by decide) (fun h126 => ?_) (fun h126 => ?_)
                                                    · exact absurd h126 (by decide)
                                                    refine lv_iload_n hx hb d_Ref_zeros_9 rfl (lv_at hl 2 rfl) ?_
                                                    refine lv_iload_n hx hb d_Ref_zeros_10 rfl (lv_at hl 0 rfl) ?_
                                                    refine k_cSi (As := [.int p0, .int (6 : Int32)]) (rest := []) (wr := []) (wj := []) ⟨hx, hb, hml, hown, hB⟩ (c_Ref_bit l D p0 (6 : Int32)) yl_Ref_bit mw_725 hK hN hP hD hS hA [] [] [] [] rfl rfl rfl rfl (by decide +kernel) rfl hl.1 rfl (Nat.le_of_ble_eq_true rfl) ⟨Nat.le_of_ble_eq_true rfl, Nat.le_of_ble_eq_true rfl⟩ d_Ref_zeros_11 ⟨Nat.le_of_ble_eq_true rfl, Nat.le_of_ble_eq_true rfl⟩ (fun H locs hP hD hS => ?_)
                                                    refine lv_if_ne (tgt := 27) hx hb d_Ref_zeros_14 (by decide) (fun (h130 : ¬ (f_Ref_bit p0 (6 : Int32)) = (0 : Int32)) => ?_) (fun (h130 : (f_Ref_bit p0 (6 : Int32)) = (0 : Int32)) => ?_)
                                                    · refine lv_iload_n hx hb d_Ref_zeros_27 rfl (lv_at hl 1 rfl) ?_
                                                      have ef : f_Ref_zeros p0 = (25 : Int32) := by unfold f_Ref_zeros; rw [if_pos h5, if_pos h10, if_pos h15, if_pos h20, if_pos h25, if_pos h30, if_pos h35, if_pos h40, if_pos h45, if_pos h50, if_pos h55, if_pos h60, if_pos h65, if_pos h70, if_pos h75, if_pos h80, if_pos h85, if_pos h90, if_pos h95, if_pos h100, if_pos h105, if_pos h110, if_pos h115, if_pos h120, if_pos h125, if_neg h130]
                                                      exact k_iret hx hb hr hlocks hK hP hD hS [] rfl rfl (by rw [ef] <;> rfl) d_Ref_zeros_28
                                                    · refine lv_iload_n hx hb d_Ref_zeros_17 rfl (lv_at hl 1 rfl) ?_
                                                      refine lv_iconst (v := (1 : Int32)) hx hb d_Ref_zeros_18 (by decide) ?_
                                                      refine lv_iadd hx hb d_Ref_zeros_19 ?_
                                                      refine k_fold (26 : Int32) (by decide) ?_
                                                      refine lv_istore_n (lv' := [(1, .int (26 : Int32)), (2, .int (6 : Int32)), (0, .int p0)]) hx hb d_Ref_zeros_20 rfl hl (by decide) rfl (fun ls hl => ?_)
                                                      refine lv_iinc (v := (5 : Int32)) (lv' := [(2, .int (5 : Int32)), (1, .int (26 : Int32)), (0, .int p0)]) hx hb d_Ref_zeros_21 hl (k := 1) rfl (by decide) (by decide) rfl (fun ls hl => ?_)
                                                      refine lv_goto (tgt := 5) hx hb d_Ref_zeros_24 (by decide) ?_
                                                      refine lv_iload_n hx hb d_Ref_zeros_5 rfl (lv_at hl 0 rfl) ?_
                                                      refine lv_if_lt (tgt := 27) hx hb d_Ref_zeros_6 (by decide) (fun h131 => ?_) (fun h131 => ?_)
                                                      · exact absurd h131 (by decide)
                                                      refine lv_iload_n hx hb d_Ref_zeros_9 rfl (lv_at hl 2 rfl) ?_
                                                      refine lv_iload_n hx hb d_Ref_zeros_10 rfl (lv_at hl 0 rfl) ?_
                                                      refine k_cSi (As := [.int p0, .int (5 : Int32)]) (rest := []) (wr := []) (wj := []) ⟨hx, hb, hml, hown, hB⟩ (c_Ref_bit l D p0 (5 : Int32)) yl_Ref_bit mw_725 hK hN hP hD hS hA [] [] [] [] rfl rfl rfl rfl (by decide +kernel) rfl hl.1 rfl (Nat.le_of_ble_eq_true rfl) ⟨Nat.le_of_ble_eq_true rfl, Nat.le_of_ble_eq_true rfl⟩ d_Ref_zeros_11 ⟨Nat.le_of_ble_eq_true rfl, Nat.le_of_ble_eq_true rfl⟩ (fun H locs hP hD hS => ?_)
                                                      refine lv_if_ne (tgt := 27) hx hb d_Ref_zeros_14 (by decide) (fun (h135 : ¬ (f_Ref_bit p0 (5 : Int32)) = (0 : Int32)) => ?_) (fun (h135 : (f_Ref_bit p0 (5 : Int32)) = (0 : Int32)) => ?_)
                                                      · refine lv_iload_n hx hb d_Ref_zeros_27 rfl (lv_at hl 1 rfl) ?_
                                                        have ef : f_Ref_zeros p0 = (26 : Int32) := by unfold f_Ref_zeros; rw [if_pos h5, if_pos h10, if_pos h15, if_pos h20, if_pos h25, if_pos h30, if_pos h35, if_pos h40, if_pos h45, if_pos h50, if_pos h55, if_pos h60, if_pos h65, if_pos h70, if_pos h75, if_pos h80, if_pos h85, if_pos h90, if_pos h95, if_pos h100, if_pos h105, if_pos h110, if_pos h115, if_pos h120, if_pos h125, if_pos h130, if_neg h135]
                                                        exact k_iret hx hb hr hlocks hK hP hD hS [] rfl rfl (by rw [ef] <;> rfl) d_Ref_zeros_28
                                                      · refine lv_iload_n hx hb d_Ref_zeros_17 rfl (lv_at hl 1 rfl) ?_
                                                        refine lv_iconst (v := (1 : Int32)) hx hb d_Ref_zeros_18 (by decide) ?_
                                                        refine lv_iadd hx hb d_Ref_zeros_19 ?_
                                                        refine k_fold (27 : Int32) (by decide) ?_
                                                        refine lv_istore_n (lv' := [(1, .int (27 : Int32)), (2, .int (5 : Int32)), (0, .int p0)]) hx hb d_Ref_zeros_20 rfl hl (by decide) rfl (fun ls hl => ?_)
                                                        refine lv_iinc (v := (4 : Int32)) (lv' := [(2, .int (4 : Int32)), (1, .int (27 : Int32)), (0, .int p0)]) hx hb d_Ref_zeros_21 hl (k := 1) rfl (by decide) (by decide) rfl (fun ls hl => ?_)
                                                        refine lv_goto (tgt := 5) hx hb d_Ref_zeros_24 (by decide) ?_
                                                        refine lv_iload_n hx hb d_Ref_zeros_5 rfl (lv_at hl 0 rfl) ?_
                                                        refine lv_if_lt (tgt := 27) hx hb d_Ref_zeros_6 (by decide) (fun h136 => ?_) (fun h136 => ?_)
                                                        · exact absurd h136 (by decide)
                                                        refine lv_iload_n hx hb d_Ref_zeros_9 rfl (lv_at hl 2 rfl) ?_
                                                        refine lv_iload_n hx hb d_Ref_zeros_10 rfl (lv_at hl 0 rfl) ?_
                                                        refine k_cSi (As := [.int p0, .int (4 : Int32)]) (rest := []) (wr := []) (wj := []) ⟨hx, hb, hml, hown, hB⟩ (c_Ref_bit l D p0 (4 : Int32)) yl_Ref_bit mw_725 hK hN hP hD hS hA [] [] [] [] rfl rfl rfl rfl (by decide +kernel) rfl hl.1 rfl (Nat.le_of_ble_eq_true rfl) ⟨Nat.le_of_ble_eq_true rfl, Nat.le_of_ble_eq_true rfl⟩ d_Ref_zeros_11 ⟨Nat.le_of_ble_eq_true rfl, Nat.le_of_ble_eq_true rfl⟩ (fun H locs hP hD hS => ?_)
                                                        refine lv_if_ne (tgt := 27) hx hb d_Ref_zeros_14 (by decide) (fun (h140 : ¬ (f_Ref_bit p0 (4 : Int32)) = (0 : Int32)) => ?_) (fun (h140 : (f_Ref_bit p0 (4 : Int32)) = (0 : Int32)) => ?_)
                                                        · refine lv_iload_n hx hb d_Ref_zeros_27 rfl (lv_at hl 1 rfl) ?_
                                                          have ef : f_Ref_zeros p0 = (27 : Int32) := by unfold f_Ref_zeros; rw [if_pos h5, if_pos h10, if_pos h15, if_pos h20, if_pos h25, if_pos h30, if_pos h35, if_pos h40, if_pos h45, if_pos h50, if_pos h55, if_pos h60, if_pos h65, if_pos h70, if_pos h75, if_pos h80, if_pos h85, if_pos h90, if_pos h95, if_pos h100, if_pos h105, if_pos h110, if_pos h115, if_pos h120, if_pos h125, if_pos h130, if_pos h135, if_neg h140]
                                                          exact k_iret hx hb hr hlocks hK hP hD hS [] rfl rfl (by rw [ef] <;> rfl) d_Ref_zeros_28
                                                        · refine lv_iload_n hx hb d_Ref_zeros_17 rfl (lv_at hl 1 rfl) ?_
                                                          refine lv_iconst (v := (1 : Int32)) hx hb d_Ref_zeros_18 (by decide) ?_
                                                          refine lv_iadd hx hb d_Ref_zeros_19 ?_
                                                          refine k_fold (28 : Int32) (by decide) ?_
                                                          refine lv_istore_n (lv' := [(1, .int (28 : Int32)), (2, .int (4 : Int32)), (0, .int p0)]) hx hb d_Ref_zeros_20 rfl hl (by decide) rfl (fun ls hl => ?_)
                                                          refine lv_iinc (v := (3 : Int32)) (lv' := [(2, .int (3 : Int32)), (1, .int (28 : Int32)), (0, .int p0)]) hx hb d_Ref_zeros_21 hl (k := 1) rfl (by decide) (by decide) rfl (fun ls hl => ?_)
                                                          refine lv_goto (tgt := 5) hx hb d_Ref_zeros_24 (by decide) ?_
                                                          refine lv_iload_n hx hb d_Ref_zeros_5 rfl (lv_at hl 0 rfl) ?_
                                                          refine lv_if_lt (tgt := 27) hx hb d_Ref_zeros_6 (by decide) (fun h141 => ?_) (fun h141 => ?_)
                                                          · exact absurd h141 (by decide)
                                                          refine lv_iload_n hx hb d_Ref_zeros_9 rfl (lv_at hl 2 rfl) ?_
                                                          refine lv_iload_n hx hb d_Ref_zeros_10 rfl (lv_at hl 0 rfl) ?_
                                                          refine k_cSi (As := [.int p0, .int (3 : Int32)]) (rest := []) (wr := []) (wj := []) ⟨hx, hb, hml, hown, hB⟩ (c_Ref_bit l D p0 (3 : Int32)) yl_Ref_bit mw_725 hK hN hP hD hS hA [] [] [] [] rfl rfl rfl rfl (by decide +kernel) rfl hl.1 rfl (Nat.le_of_ble_eq_true rfl) ⟨Nat.le_of_ble_eq_true rfl, Nat.le_of_ble_eq_true rfl⟩ d_Ref_zeros_11 ⟨Nat.le_of_ble_eq_true rfl, Nat.le_of_ble_eq_true rfl⟩ (fun H locs hP hD hS => ?_)
                                                          refine lv_if_ne (tgt := 27) hx hb d_Ref_zeros_14 (by decide) (fun (h145 : ¬ (f_Ref_bit p0 (3 : Int32)) = (0 : Int32)) => ?_) (fun (h145 : (f_Ref_bit p0 (3 : Int32)) = (0 : Int32)) => ?_)
                                                          · refine lv_iload_n hx hb d_Ref_zeros_27 rfl (lv_at hl 1 rfl) ?_
                                                            have ef : f_Ref_zeros p0 = (28 : Int32) := by unfold f_Ref_zeros; rw [if_pos h5, if_pos h10, if_pos h15, if_pos h20, if_pos h25, if_pos h30, if_pos h35, if_pos h40, if_pos h45, if_pos h50, if_pos h55, if_pos h60, if_pos h65, if_pos h70, if_pos h75, if_pos h80, if_pos h85, if_pos h90, if_pos h95, if_pos h100, if_pos h105, if_pos h110, if_pos h115, if_pos h120, if_pos h125, if_pos h130, if_pos h135, if_pos h140, if_neg h145]
                                                            exact k_iret hx hb hr hlocks hK hP hD hS [] rfl rfl (by rw [ef] <;> rfl) d_Ref_zeros_28
                                                          · refine lv_iload_n hx hb d_Ref_zeros_17 rfl (lv_at hl 1 rfl) ?_
                                                            refine lv_iconst (v := (1 : Int32)) hx hb d_Ref_zeros_18 (by decide) ?_
                                                            refine lv_iadd hx hb d_Ref_zeros_19 ?_
                                                            refine k_fold (29 : Int32) (by decide) ?_
                                                            refine lv_istore_n (lv' := [(1, .int (29 : Int32)), (2, .int (3 : Int32)), (0, .int p0)]) hx hb d_Ref_zeros_20 rfl hl (by decide) rfl (fun ls hl => ?_)
                                                            refine lv_iinc (v := (2 : Int32)) (lv' := [(2, .int (2 : Int32)), (1, .int (29 : Int32)), (0, .int p0)]) hx hb d_Ref_zeros_21 hl (k := 1) rfl (by decide) (by decide) rfl (fun ls hl => ?_)
                                                            refine lv_goto (tgt := 5) hx hb d_Ref_zeros_24 (by decide) ?_
                                                            refine lv_iload_n hx hb d_Ref_zeros_5 rfl (lv_at hl 0 rfl) ?_
                                                            refine lv_if_lt (tgt := 27) hx hb d_Ref_zeros_6 (by decide) (fun h146 => ?_) (fun h146 => ?_)
                                                            · exact absurd h146 (by decide)
                                                            refine lv_iload_n hx hb d_Ref_zeros_9 rfl (lv_at hl 2 rfl) ?_
                                                            refine lv_iload_n hx hb d_Ref_zeros_10 rfl (lv_at hl 0 rfl) ?_
                                                            refine k_cSi (As := [.int p0, .int (2 : Int32)]) (rest := []) (wr := []) (wj := []) ⟨hx, hb, hml, hown, hB⟩ (c_Ref_bit l D p0 (2 : Int32)) yl_Ref_bit mw_725 hK hN hP hD hS hA [] [] [] [] rfl rfl rfl rfl (by decide +kernel) rfl hl.1 rfl (Nat.le_of_ble_eq_true rfl) ⟨Nat.le_of_ble_eq_true rfl, Nat.le_of_ble_eq_true rfl⟩ d_Ref_zeros_11 ⟨Nat.le_of_ble_eq_true rfl, Nat.le_of_ble_eq_true rfl⟩ (fun H locs hP hD hS => ?_)
                                                            refine lv_if_ne (tgt := 27) hx hb d_Ref_zeros_14 (by decide) (fun (h150 : ¬ (f_Ref_bit p0 (2 : Int32)) = (0 : Int32)) => ?_) (fun (h150 : (f_Ref_bit p0 (2 : Int32)) = (0 : Int32)) => ?_)
                                                            · refine lv_iload_n hx hb d_Ref_zeros_27 rfl (lv_at hl 1 rfl) ?_
                                                              have ef : f_Ref_zeros p0 = (29 : Int32) := by unfold f_Ref_zeros; rw [if_pos h5, if_pos h10, if_pos h15, if_pos h20, if_pos h25, if_pos h30, if_pos h35, if_pos h40, if_pos h45, if_pos h50, if_pos h55, if_pos h60, if_pos h65, if_pos h70, if_pos h75, if_pos h80, if_pos h85, if_pos h90, if_pos h95, if_pos h100, if_pos h105, if_pos h110, if_pos h115, if_pos h120, if_pos h125, if_pos h130, if_pos h135, if_pos h140, if_pos h145, if_neg h150]
                                                              exact k_iret hx hb hr hlocks hK hP hD hS [] rfl rfl (by rw [ef] <;> rfl) d_Ref_zeros_28
                                                            · refine lv_iload_n hx hb d_Ref_zeros_17 rfl (lv_at hl 1 rfl) ?_
                                                              refine lv_iconst (v := (1 : Int32)) hx hb d_Ref_zeros_18 (by decide) ?_
                                                              refine lv_iadd hx hb d_Ref_zeros_19 ?_
                                                              refine k_fold (30 : Int32) (by decide) ?_
                                                              refine lv_istore_n (lv' := [(1, .int (30 : Int32)), (2, .int (2 : Int32)), (0, .int p0)]) hx hb d_Ref_zeros_20 rfl hl (by decide) rfl (fun ls hl => ?_)
                                                              refine lv_iinc (v := (1 : Int32)) (lv' := [(2, .int (1 : Int32)), (1, .int (30 : Int32)), (0, .int p0)]) hx hb d_Ref_zeros_21 hl (k := 1) rfl (by decide) (by decide) rfl (fun ls hl => ?_)
                                                              refine lv_goto (tgt := 5) hx hb d_Ref_zeros_24 (by decide) ?_
                                                              refine lv_iload_n hx hb d_Ref_zeros_5 rfl (lv_at hl 0 rfl) ?_
                                                              refine lv_if_lt (tgt := 27) hx hb d_Ref_zeros_6 (by decide) (fun h151 => ?_) (fun h151 => ?_)
                                                              · exact absurd h151 (by decide)
                                                              refine lv_iload_n hx hb d_Ref_zeros_9 rfl (lv_at hl 2 rfl) ?_
                                                              refine lv_iload_n hx hb d_Ref_zeros_10 rfl (lv_at hl 0 rfl) ?_
                                                              refine k_cSi (As := [.int p0, .int (1 : Int32)]) (rest := []) (wr := []) (wj := []) ⟨hx, hb, hml, hown, hB⟩ (c_Ref_bit l D p0 (1 : Int32)) yl_Ref_bit mw_725 hK hN hP hD hS hA [] [] [] [] rfl rfl rfl rfl (by decide +kernel) rfl hl.1 rfl (Nat.le_of_ble_eq_true rfl) ⟨Nat.le_of_ble_eq_true rfl, Nat.le_of_ble_eq_true rfl⟩ d_Ref_zeros_11 ⟨Nat.le_of_ble_eq_true rfl, Nat.le_of_ble_eq_true rfl⟩ (fun H locs hP hD hS => ?_)
                                                              refine lv_if_ne (tgt := 27) hx hb d_Ref_zeros_14 (by decide) (fun (h155 : ¬ (f_Ref_bit p0 (1 : Int32)) = (0 : Int32)) => ?_) (fun (h155 : (f_Ref_bit p0 (1 : Int32)) = (0 : Int32)) => ?_)
                                                              · refine lv_iload_n hx hb d_Ref_zeros_27 rfl (lv_at hl 1 rfl) ?_
                                                                have ef : f_Ref_zeros p0 = (30 : Int32) := by unfold f_Ref_zeros; rw [if_pos h5, if_pos h10, if_pos h15, if_pos h20, if_pos h25, if_pos h30, if_pos h35, if_pos h40, if_pos h45, if_pos h50, if_pos h55, if_pos h60, if_pos h65, if_pos h70, if_pos h75, if_pos h80, if_pos h85, if_pos h90, if_pos h95, if_pos h100, if_pos h105, if_pos h110, if_pos h115, if_pos h120, if_pos h125, if_pos h130, if_pos h135, if_pos h140, if_pos h145, if_pos h150, if_neg h155]
                                                                exact k_iret hx hb hr hlocks hK hP hD hS [] rfl rfl (by rw [ef] <;> rfl) d_Ref_zeros_28
                                                              · refine lv_iload_n hx hb d_Ref_zeros_17 rfl (lv_at hl 1 rfl) ?_
                                                                refine lv_iconst (v := (1 : Int32)) hx hb d_Ref_zeros_18 (by decide) ?_
                                                                refine lv_iadd hx hb d_Ref_zeros_19 ?_
                                                                refine k_fold (31 : Int32) (by decide) ?_
                                                                refine lv_istore_n (lv' := [(1, .int (31 : Int32)), (2, .int (1 : Int32)), (0, .int p0)]) hx hb d_Ref_zeros_20 rfl hl (by decide) rfl (fun ls hl => ?_)
                                                                refine lv_iinc (v := (0 : Int32)) (lv' := [(2, .int (0 : Int32)), (1, .int (31 : Int32)), (0, .int p0)]) hx hb d_Ref_zeros_21 hl (k := 1) rfl (by decide) (by decide) rfl (fun ls hl => ?_)
                                                                refine lv_goto (tgt := 5) hx hb d_Ref_zeros_24 (by decide) ?_
                                                                refine lv_iload_n hx hb d_Ref_zeros_5 rfl (lv_at hl 0 rfl) ?_
                                                                refine lv_if_lt (tgt := 27) hx hb d_Ref_zeros_6 (by decide) (fun h156 => ?_) (fun h156 => ?_)
                                                                · exact absurd h156 (by decide)
                                                                refine lv_iload_n hx hb d_Ref_zeros_9 rfl (lv_at hl 2 rfl) ?_
                                                                refine lv_iload_n hx hb d_Ref_zeros_10 rfl (lv_at hl 0 rfl) ?_
                                                                refine k_cSi (As := [.int p0, .int (0 : Int32)]) (rest := []) (wr := []) (wj := []) ⟨hx, hb, hml, hown, hB⟩ (c_Ref_bit l D p0 (0 : Int32)) yl_Ref_bit mw_725 hK hN hP hD hS hA [] [] [] [] rfl rfl rfl rfl (by decide +kernel) rfl hl.1 rfl (Nat.le_of_ble_eq_true rfl) ⟨Nat.le_of_ble_eq_true rfl, Nat.le_of_ble_eq_true rfl⟩ d_Ref_zeros_11 ⟨Nat.le_of_ble_eq_true rfl, Nat.le_of_ble_eq_true rfl⟩ (fun H locs hP hD hS => ?_)
                                                                refine lv_if_ne (tgt := 27) hx hb d_Ref_zeros_14 (by decide) (fun (h160 : ¬ (f_Ref_bit p0 (0 : Int32)) = (0 : Int32)) => ?_) (fun (h160 : (f_Ref_bit p0 (0 : Int32)) = (0 : Int32)) => ?_)
                                                                · refine lv_iload_n hx hb d_Ref_zeros_27 rfl (lv_at hl 1 rfl) ?_
                                                                  have ef : f_Ref_zeros p0 = (31 : Int32) := by unfold f_Ref_zeros; rw [if_pos h5, if_pos h10, if_pos h15, if_pos h20, if_pos h25, if_pos h30, if_pos h35, if_pos h40, if_pos h45, if_pos h50, if_pos h55, if_pos h60, if_pos h65, if_pos h70, if_pos h75, if_pos h80, if_pos h85, if_pos h90, if_pos h95, if_pos h100, if_pos h105, if_pos h110, if_pos h115, if_pos h120, if_pos h125, if_pos h130, if_pos h135, if_pos h140, if_pos h145, if_pos h150, if_pos h155, if_neg h160]
                                                                  exact k_iret hx hb hr hlocks hK hP hD hS [] rfl rfl (by rw [ef] <;> rfl) d_Ref_zeros_28
                                                                · refine lv_iload_n hx hb d_Ref_zeros_17 rfl (lv_at hl 1 rfl) ?_
                                                                  refine lv_iconst (v := (1 : Int32)) hx hb d_Ref_zeros_18 (by decide) ?_
                                                                  refine lv_iadd hx hb d_Ref_zeros_19 ?_
                                                                  refine k_fold (32 : Int32) (by decide) ?_
                                                                  refine lv_istore_n (lv' := [(1, .int (32 : Int32)), (2, .int (0 : Int32)), (0, .int p0)]) hx hb d_Ref_zeros_20 rfl hl (by decide) rfl (fun ls hl => ?_)
                                                                  refine lv_iinc (v := (-1 : Int32)) (lv' := [(2, .int (-1 : Int32)), (1, .int (32 : Int32)), (0, .int p0)]) hx hb d_Ref_zeros_21 hl (k := 1) rfl (by decide) (by decide) rfl (fun ls hl => ?_)
                                                                  refine lv_goto (tgt := 5) hx hb d_Ref_zeros_24 (by decide) ?_
                                                                  refine lv_iload_n hx hb d_Ref_zeros_5 rfl (lv_at hl 0 rfl) ?_
                                                                  refine lv_if_lt (tgt := 27) hx hb d_Ref_zeros_6 (by decide) (fun h161 => ?_) (fun h161 => ?_)
                                                                  rotate_left
                                                                  · exact absurd (by decide) h161
                                                                  refine lv_iload_n hx hb d_Ref_zeros_27 rfl (lv_at hl 1 rfl) ?_
                                                                  have ef : f_Ref_zeros p0 = (32 : Int32) := by unfold f_Ref_zeros; rw [if_pos h5, if_pos h10, if_pos h15, if_pos h20, if_pos h25, if_pos h30, if_pos h35, if_pos h40, if_pos h45, if_pos h50, if_pos h55, if_pos h60, if_pos h65, if_pos h70, if_pos h75, if_pos h80, if_pos h85, if_pos h90, if_pos h95, if_pos h100, if_pos h105, if_pos h110, if_pos h115, if_pos h120, if_pos h125, if_pos h130, if_pos h135, if_pos h140, if_pos h145, if_pos h150, if_pos h155, if_pos h160]
                                                                  exact k_iret hx hb hr hlocks hK hP hD hS [] rfl rfl (by rw [ef] <;> rfl) d_Ref_zeros_28
/-! MappedProcessorModel.shifts(I)Z -/
theorem d_Ref_shifts_0 : decode b_Ref_shifts 0 = .ok (.aload_n 0, 1) := by decide +kernel
theorem d_Ref_shifts_1 : decode b_Ref_shifts 1 = .ok (.getfield 7, 3) := by decide +kernel
theorem d_Ref_shifts_4 : decode b_Ref_shifts 4 = .ok (.aload_n 0, 1) := by decide +kernel
theorem d_Ref_shifts_5 : decode b_Ref_shifts 5 = .ok (.getfield 82, 3) := by decide +kernel
theorem d_Ref_shifts_8 : decode b_Ref_shifts 8 = .ok (.iaload, 1) := by decide +kernel
theorem d_Ref_shifts_9 : decode b_Ref_shifts 9 = .ok (.istore_n 2, 1) := by decide +kernel
theorem d_Ref_shifts_10 : decode b_Ref_shifts 10 = .ok (.iload_n 1, 1) := by decide +kernel
theorem d_Ref_shifts_11 : decode b_Ref_shifts 11 = .ok (.sipush 824, 3) := by decide +kernel
theorem d_Ref_shifts_14 : decode b_Ref_shifts 14 = .ok (.if_icmp .ne 10, 3) := by decide +kernel
theorem d_Ref_shifts_17 : decode b_Ref_shifts 17 = .ok (.aload_n 0, 1) := by decide +kernel
theorem d_Ref_shifts_18 : decode b_Ref_shifts 18 = .ok (.getfield 88, 3) := by decide +kernel
theorem d_Ref_shifts_21 : decode b_Ref_shifts 21 = .ok (.goto 15, 3) := by decide +kernel
theorem d_Ref_shifts_24 : decode b_Ref_shifts 24 = .ok (.aload_n 0, 1) := by decide +kernel
theorem d_Ref_shifts_25 : decode b_Ref_shifts 25 = .ok (.getfield 7, 3) := by decide +kernel
theorem d_Ref_shifts_28 : decode b_Ref_shifts 28 = .ok (.aload_n 0, 1) := by decide +kernel
theorem d_Ref_shifts_29 : decode b_Ref_shifts 29 = .ok (.getfield 88, 3) := by decide +kernel
theorem d_Ref_shifts_32 : decode b_Ref_shifts 32 = .ok (.iaload, 1) := by decide +kernel
theorem d_Ref_shifts_33 : decode b_Ref_shifts 33 = .ok (.bipush 63, 2) := by decide +kernel
theorem d_Ref_shifts_35 : decode b_Ref_shifts 35 = .ok (.iand, 1) := by decide +kernel
theorem d_Ref_shifts_36 : decode b_Ref_shifts 36 = .ok (.istore_n 3, 1) := by decide +kernel
theorem d_Ref_shifts_37 : decode b_Ref_shifts 37 = .ok (.iload_n 1, 1) := by decide +kernel
theorem d_Ref_shifts_38 : decode b_Ref_shifts 38 = .ok (.bipush 24, 2) := by decide +kernel
theorem d_Ref_shifts_40 : decode b_Ref_shifts 40 = .ok (.if_icmp .ne 27, 3) := by decide +kernel
theorem d_Ref_shifts_43 : decode b_Ref_shifts 43 = .ok (.aload_n 0, 1) := by decide +kernel
theorem d_Ref_shifts_44 : decode b_Ref_shifts 44 = .ok (.aload_n 0, 1) := by decide +kernel
theorem d_Ref_shifts_45 : decode b_Ref_shifts 45 = .ok (.getfield 85, 3) := by decide +kernel
theorem d_Ref_shifts_48 : decode b_Ref_shifts 48 = .ok (.iload_n 3, 1) := by decide +kernel
theorem d_Ref_shifts_49 : decode b_Ref_shifts 49 = .ok (.bipush 31, 2) := by decide +kernel
theorem d_Ref_shifts_51 : decode b_Ref_shifts 51 = .ok (.if_icmp .le 7, 3) := by decide +kernel
theorem d_Ref_shifts_54 : decode b_Ref_shifts 54 = .ok (.iconst 0, 1) := by decide +kernel
theorem d_Ref_shifts_55 : decode b_Ref_shifts 55 = .ok (.goto 6, 3) := by decide +kernel
theorem d_Ref_shifts_58 : decode b_Ref_shifts 58 = .ok (.iload_n 2, 1) := by decide +kernel
theorem d_Ref_shifts_59 : decode b_Ref_shifts 59 = .ok (.iload_n 3, 1) := by decide +kernel
theorem d_Ref_shifts_60 : decode b_Ref_shifts 60 = .ok (.ishl, 1) := by decide +kernel
theorem d_Ref_shifts_61 : decode b_Ref_shifts 61 = .ok (.invokevirtual 175, 3) := by decide +kernel
theorem d_Ref_shifts_64 : decode b_Ref_shifts 64 = .ok (.goto 187, 3) := by decide +kernel
theorem d_Ref_shifts_67 : decode b_Ref_shifts 67 = .ok (.iload_n 1, 1) := by decide +kernel
theorem d_Ref_shifts_68 : decode b_Ref_shifts 68 = .ok (.sipush 536, 3) := by decide +kernel
theorem d_Ref_shifts_71 : decode b_Ref_shifts 71 = .ok (.if_icmp .ne 27, 3) := by decide +kernel
theorem d_Ref_shifts_74 : decode b_Ref_shifts 74 = .ok (.aload_n 0, 1) := by decide +kernel
theorem d_Ref_shifts_75 : decode b_Ref_shifts 75 = .ok (.aload_n 0, 1) := by decide +kernel
theorem d_Ref_shifts_76 : decode b_Ref_shifts 76 = .ok (.getfield 85, 3) := by decide +kernel
theorem d_Ref_shifts_79 : decode b_Ref_shifts 79 = .ok (.iload_n 3, 1) := by decide +kernel
theorem d_Ref_shifts_80 : decode b_Ref_shifts 80 = .ok (.bipush 31, 2) := by decide +kernel
theorem d_Ref_shifts_82 : decode b_Ref_shifts 82 = .ok (.if_icmp .le 7, 3) := by decide +kernel
theorem d_Ref_shifts_85 : decode b_Ref_shifts 85 = .ok (.iconst 0, 1) := by decide +kernel
theorem d_Ref_shifts_86 : decode b_Ref_shifts 86 = .ok (.goto 6, 3) := by decide +kernel
theorem d_Ref_shifts_89 : decode b_Ref_shifts 89 = .ok (.iload_n 2, 1) := by decide +kernel
theorem d_Ref_shifts_90 : decode b_Ref_shifts 90 = .ok (.iload_n 3, 1) := by decide +kernel
theorem d_Ref_shifts_91 : decode b_Ref_shifts 91 = .ok (.iushr, 1) := by decide +kernel
theorem d_Ref_shifts_92 : decode b_Ref_shifts 92 = .ok (.invokevirtual 175, 3) := by decide +kernel
theorem d_Ref_shifts_95 : decode b_Ref_shifts 95 = .ok (.goto 156, 3) := by decide +kernel
theorem d_Ref_shifts_98 : decode b_Ref_shifts 98 = .ok (.iload_n 1, 1) := by decide +kernel
theorem d_Ref_shifts_99 : decode b_Ref_shifts 99 = .ok (.sipush 792, 3) := by decide +kernel
theorem d_Ref_shifts_102 : decode b_Ref_shifts 102 = .ok (.if_icmp .eq 10, 3) := by decide +kernel
theorem d_Ref_shifts_105 : decode b_Ref_shifts 105 = .ok (.iload_n 1, 1) := by decide +kernel
theorem d_Ref_shifts_106 : decode b_Ref_shifts 106 = .ok (.sipush 824, 3) := by decide +kernel
theorem d_Ref_shifts_109 : decode b_Ref_shifts 109 = .ok (.if_icmp .ne 69, 3) := by decide +kernel
theorem d_Ref_shifts_112 : decode b_Ref_shifts 112 = .ok (.iload_n 3, 1) := by decide +kernel
theorem d_Ref_shifts_113 : decode b_Ref_shifts 113 = .ok (.bipush 31, 2) := by decide +kernel
theorem d_Ref_shifts_115 : decode b_Ref_shifts 115 = .ok (.if_icmp .le 10, 3) := by decide +kernel
theorem d_Ref_shifts_118 : decode b_Ref_shifts 118 = .ok (.iload_n 2, 1) := by decide +kernel
theorem d_Ref_shifts_119 : decode b_Ref_shifts 119 = .ok (.bipush 31, 2) := by decide +kernel
theorem d_Ref_shifts_121 : decode b_Ref_shifts 121 = .ok (.ishr, 1) := by decide +kernel
theorem d_Ref_shifts_122 : decode b_Ref_shifts 122 = .ok (.goto 6, 3) := by decide +kernel
theorem d_Ref_shifts_125 : decode b_Ref_shifts 125 = .ok (.iload_n 2, 1) := by decide +kernel
theorem d_Ref_shifts_126 : decode b_Ref_shifts 126 = .ok (.iload_n 3, 1) := by decide +kernel
theorem d_Ref_shifts_127 : decode b_Ref_shifts 127 = .ok (.ishr, 1) := by decide +kernel
theorem d_Ref_shifts_128 : decode b_Ref_shifts 128 = .ok (.istore 4, 2) := by decide +kernel
theorem d_Ref_shifts_130 : decode b_Ref_shifts 130 = .ok (.iload_n 3, 1) := by decide +kernel
theorem d_Ref_shifts_131 : decode b_Ref_shifts 131 = .ok (.bipush 31, 2) := by decide +kernel
theorem d_Ref_shifts_133 : decode b_Ref_shifts 133 = .ok (.if_icmp .le 7, 3) := by decide +kernel
theorem d_Ref_shifts_136 : decode b_Ref_shifts 136 = .ok (.iconst 0, 1) := by decide +kernel
theorem d_Ref_shifts_137 : decode b_Ref_shifts 137 = .ok (.goto 7, 3) := by decide +kernel
theorem d_Ref_shifts_140 : decode b_Ref_shifts 140 = .ok (.iload 4, 2) := by decide +kernel
theorem d_Ref_shifts_142 : decode b_Ref_shifts 142 = .ok (.iload_n 3, 1) := by decide +kernel
theorem d_Ref_shifts_143 : decode b_Ref_shifts 143 = .ok (.ishl, 1) := by decide +kernel
theorem d_Ref_shifts_144 : decode b_Ref_shifts 144 = .ok (.istore 5, 2) := by decide +kernel
theorem d_Ref_shifts_146 : decode b_Ref_shifts 146 = .ok (.aload_n 0, 1) := by decide +kernel
theorem d_Ref_shifts_147 : decode b_Ref_shifts 147 = .ok (.iload_n 2, 1) := by decide +kernel
theorem d_Ref_shifts_148 : decode b_Ref_shifts 148 = .ok (.ifCond .ge 13, 3) := by decide +kernel
theorem d_Ref_shifts_151 : decode b_Ref_shifts 151 = .ok (.iload 5, 2) := by decide +kernel
theorem d_Ref_shifts_153 : decode b_Ref_shifts 153 = .ok (.iload_n 2, 1) := by decide +kernel
theorem d_Ref_shifts_154 : decode b_Ref_shifts 154 = .ok (.if_icmp .eq 7, 3) := by decide +kernel
theorem d_Ref_shifts_157 : decode b_Ref_shifts 157 = .ok (.iconst 1, 1) := by decide +kernel
theorem d_Ref_shifts_158 : decode b_Ref_shifts 158 = .ok (.goto 4, 3) := by decide +kernel
theorem d_Ref_shifts_161 : decode b_Ref_shifts 161 = .ok (.iconst 0, 1) := by decide +kernel
theorem d_Ref_shifts_162 : decode b_Ref_shifts 162 = .ok (.invokevirtual 109, 3) := by decide +kernel
theorem d_Ref_shifts_165 : decode b_Ref_shifts 165 = .ok (.aload_n 0, 1) := by decide +kernel
theorem d_Ref_shifts_166 : decode b_Ref_shifts 166 = .ok (.aload_n 0, 1) := by decide +kernel
theorem d_Ref_shifts_167 : decode b_Ref_shifts 167 = .ok (.getfield 85, 3) := by decide +kernel
theorem d_Ref_shifts_170 : decode b_Ref_shifts 170 = .ok (.iload 4, 2) := by decide +kernel
theorem d_Ref_shifts_172 : decode b_Ref_shifts 172 = .ok (.invokevirtual 175, 3) := by decide +kernel
theorem d_Ref_shifts_175 : decode b_Ref_shifts 175 = .ok (.goto 76, 3) := by decide +kernel
theorem d_Ref_shifts_178 : decode b_Ref_shifts 178 = .ok (.iload_n 1, 1) := by decide +kernel
theorem d_Ref_shifts_179 : decode b_Ref_shifts 179 = .ok (.bipush 26, 2) := by decide +kernel
theorem d_Ref_shifts_181 : decode b_Ref_shifts 181 = .ok (.if_icmp .ne 18, 3) := by decide +kernel
theorem d_Ref_shifts_184 : decode b_Ref_shifts 184 = .ok (.aload_n 0, 1) := by decide +kernel
theorem d_Ref_shifts_185 : decode b_Ref_shifts 185 = .ok (.aload_n 0, 1) := by decide +kernel
theorem d_Ref_shifts_186 : decode b_Ref_shifts 186 = .ok (.getfield 85, 3) := by decide +kernel
theorem d_Ref_shifts_189 : decode b_Ref_shifts 189 = .ok (.iload_n 2, 1) := by decide +kernel
theorem d_Ref_shifts_190 : decode b_Ref_shifts 190 = .ok (.invokestatic 200, 3) := by decide +kernel
theorem d_Ref_shifts_193 : decode b_Ref_shifts 193 = .ok (.invokevirtual 175, 3) := by decide +kernel
theorem d_Ref_shifts_196 : decode b_Ref_shifts 196 = .ok (.goto 55, 3) := by decide +kernel
theorem d_Ref_shifts_199 : decode b_Ref_shifts 199 = .ok (.iload_n 1, 1) := by decide +kernel
theorem d_Ref_shifts_200 : decode b_Ref_shifts 200 = .ok (.sipush 954, 3) := by decide +kernel
theorem d_Ref_shifts_203 : decode b_Ref_shifts 203 = .ok (.if_icmp .ne 21, 3) := by decide +kernel
theorem d_Ref_shifts_206 : decode b_Ref_shifts 206 = .ok (.aload_n 0, 1) := by decide +kernel
theorem d_Ref_shifts_207 : decode b_Ref_shifts 207 = .ok (.aload_n 0, 1) := by decide +kernel
theorem d_Ref_shifts_208 : decode b_Ref_shifts 208 = .ok (.getfield 85, 3) := by decide +kernel
theorem d_Ref_shifts_211 : decode b_Ref_shifts 211 = .ok (.iload_n 2, 1) := by decide +kernel
theorem d_Ref_shifts_212 : decode b_Ref_shifts 212 = .ok (.bipush 24, 2) := by decide +kernel
theorem d_Ref_shifts_214 : decode b_Ref_shifts 214 = .ok (.ishl, 1) := by decide +kernel
theorem d_Ref_shifts_215 : decode b_Ref_shifts 215 = .ok (.bipush 24, 2) := by decide +kernel
theorem d_Ref_shifts_217 : decode b_Ref_shifts 217 = .ok (.ishr, 1) := by decide +kernel
theorem d_Ref_shifts_218 : decode b_Ref_shifts 218 = .ok (.invokevirtual 175, 3) := by decide +kernel
theorem d_Ref_shifts_221 : decode b_Ref_shifts 221 = .ok (.goto 30, 3) := by decide +kernel
theorem d_Ref_shifts_224 : decode b_Ref_shifts 224 = .ok (.iload_n 1, 1) := by decide +kernel
theorem d_Ref_shifts_225 : decode b_Ref_shifts 225 = .ok (.sipush 922, 3) := by decide +kernel
theorem d_Ref_shifts_228 : decode b_Ref_shifts 228 = .ok (.if_icmp .ne 21, 3) := by decide +kernel
theorem d_Ref_shifts_231 : decode b_Ref_shifts 231 = .ok (.aload_n 0, 1) := by decide +kernel
theorem d_Ref_shifts_232 : decode b_Ref_shifts 232 = .ok (.aload_n 0, 1) := by decide +kernel
theorem d_Ref_shifts_233 : decode b_Ref_shifts 233 = .ok (.getfield 85, 3) := by decide +kernel
theorem d_Ref_shifts_236 : decode b_Ref_shifts 236 = .ok (.iload_n 2, 1) := by decide +kernel
theorem d_Ref_shifts_237 : decode b_Ref_shifts 237 = .ok (.bipush 16, 2) := by decide +kernel
theorem d_Ref_shifts_239 : decode b_Ref_shifts 239 = .ok (.ishl, 1) := by decide +kernel
theorem d_Ref_shifts_240 : decode b_Ref_shifts 240 = .ok (.bipush 16, 2) := by decide +kernel
theorem d_Ref_shifts_242 : decode b_Ref_shifts 242 = .ok (.ishr, 1) := by decide +kernel
theorem d_Ref_shifts_243 : decode b_Ref_shifts 243 = .ok (.invokevirtual 175, 3) := by decide +kernel
theorem d_Ref_shifts_246 : decode b_Ref_shifts 246 = .ok (.goto 5, 3) := by decide +kernel
theorem d_Ref_shifts_249 : decode b_Ref_shifts 249 = .ok (.iconst 0, 1) := by decide +kernel
theorem d_Ref_shifts_250 : decode b_Ref_shifts 250 = .ok (.ireturn, 1) := by decide +kernel
theorem d_Ref_shifts_251 : decode b_Ref_shifts 251 = .ok (.iconst 1, 1) := by decide +kernel
theorem d_Ref_shifts_252 : decode b_Ref_shifts 252 = .ok (.ireturn, 1) := by decide +kernel
def f_Ref_shifts (p0 : Int32) (rg : Nat → Int32) (rs : Nat → Int32) (rc : Int32) (rd : Int32) (ra : Int32) (rb : Int32) : Int32 × (Nat → Int32) × (Nat → Int32) :=
  if p0 = (24 : Int32) then
    let t69 := (f_Ref_result ra (if (if p0 = (824 : Int32) then rb else ((rg (ix rb)) &&& (63 : Int32))) ≤ (31 : Int32) then (shl (rg (ix rd)) (if p0 = (824 : Int32) then rb else ((rg (ix rb)) &&& (63 : Int32)))) else (0 : Int32)) rg rs rc)
    ((1 : Int32), t69.1, t69.2)
  else
    if p0 = (536 : Int32) then
      let t63 := (f_Ref_result ra (if (if p0 = (824 : Int32) then rb else ((rg (ix rb)) &&& (63 : Int32))) ≤ (31 : Int32) then (ush (rg (ix rd)) (if p0 = (824 : Int32) then rb else ((rg (ix rb)) &&& (63 : Int32)))) else (0 : Int32)) rg rs rc)
      ((1 : Int32), t63.1, t63.2)
    else
      if p0 = (792 : Int32) then
        let t29 := (f_Ref_result ra (if (if p0 = (824 : Int32) then rb else ((rg (ix rb)) &&& (63 : Int32))) ≤ (31 : Int32) then (shr (rg (ix rd)) (if p0 = (824 : Int32) then rb else ((rg (ix rb)) &&& (63 : Int32)))) else (shr (rg (ix rd)) (31 : Int32))) rg (f_Ref_carry (if (0 : Int32) ≤ (rg (ix rd)) then (0 : Int32) else (if (if (if p0 = (824 : Int32) then rb else ((rg (ix rb)) &&& (63 : Int32))) ≤ (31 : Int32) then (shl (if (if p0 = (824 : Int32) then rb else ((rg (ix rb)) &&& (63 : Int32))) ≤ (31 : Int32) then (shr (rg (ix rd)) (if p0 = (824 : Int32) then rb else ((rg (ix rb)) &&& (63 : Int32)))) else (shr (rg (ix rd)) (31 : Int32))) (if p0 = (824 : Int32) then rb else ((rg (ix rb)) &&& (63 : Int32)))) else (0 : Int32)) = (rg (ix rd)) then (0 : Int32) else (1 : Int32))) rs) rc)
        ((1 : Int32), t29.1, t29.2)
      else
        if p0 = (824 : Int32) then
          let t57 := (f_Ref_result ra (if (if p0 = (824 : Int32) then rb else ((rg (ix rb)) &&& (63 : Int32))) ≤ (31 : Int32) then (shr (rg (ix rd)) (if p0 = (824 : Int32) then rb else ((rg (ix rb)) &&& (63 : Int32)))) else (shr (rg (ix rd)) (31 : Int32))) rg (f_Ref_carry (if (0 : Int32) ≤ (rg (ix rd)) then (0 : Int32) else (if (if (if p0 = (824 : Int32) then rb else ((rg (ix rb)) &&& (63 : Int32))) ≤ (31 : Int32) then (shl (if (if p0 = (824 : Int32) then rb else ((rg (ix rb)) &&& (63 : Int32))) ≤ (31 : Int32) then (shr (rg (ix rd)) (if p0 = (824 : Int32) then rb else ((rg (ix rb)) &&& (63 : Int32)))) else (shr (rg (ix rd)) (31 : Int32))) (if p0 = (824 : Int32) then rb else ((rg (ix rb)) &&& (63 : Int32)))) else (0 : Int32)) = (rg (ix rd)) then (0 : Int32) else (1 : Int32))) rs) rc)
          ((1 : Int32), t57.1, t57.2)
        else
          if p0 = (26 : Int32) then
            let t36 := (f_Ref_result ra (f_Ref_zeros (rg (ix rd))) rg rs rc)
            ((1 : Int32), t36.1, t36.2)
          else
            if p0 = (954 : Int32) then
              let t35 := (f_Ref_result ra (shr (shl (rg (ix rd)) (24 : Int32)) (24 : Int32)) rg rs rc)
              ((1 : Int32), t35.1, t35.2)
            else
              if p0 = (922 : Int32) then
                let t34 := (f_Ref_result ra (shr (shl (rg (ix rd)) (16 : Int32)) (16 : Int32)) rg rs rc)
                ((1 : Int32), t34.1, t34.2)
              else
                ((0 : Int32), rg, rs)
set_option maxHeartbeats 4000000 in
set_option maxRecDepth 100000 in
theorem ib_Ref_shifts (p0 : Int32) (rg : Nat → Int32) (rs : Nat → Int32) (rc : Int32) (rd : Int32) (ra : Int32) (rb : Int32) : isB (f_Ref_shifts p0 rg rs rc rd ra rb).1 := by
  unfold f_Ref_shifts
  try dsimp only
  repeat' (first | refine ib_ite ?_ ?_ | refine ib_ite0 ?_ ?_ | with_reducible exact ib0 | with_reducible exact ib1 | (dsimp only; first | exact ib0 | exact ib1))
theorem nb_Ref_shifts (p0 : Int32) (rg : Nat → Int32) (rs : Nat → Int32) (rc : Int32) (rd : Int32) (ra : Int32) (rb : Int32) : narrow .boolean (.int (f_Ref_shifts p0 rg rs rc rd ra rb).1) = .int (f_Ref_shifts p0 rg rs rc rd ra rb).1 := nb_of (ib_Ref_shifts p0 rg rs rc rd ra rb)
set_option maxHeartbeats 4000000 in
set_option maxRecDepth 100000 in
theorem c_Ref_shifts (l : Launch) (D : va_G) (aT bG bS bM : Nat) (dG dS dM : ClassId) (rg : Nat → Int32) (rs : Nat → Int32) (rm : Nat → Int32) (rl : Int32) (rk : Int32) (rr : Int32) (re : Int32) (rc : Int32) (rd : Int32) (ra : Int32) (rb : Int32) (rn : Int32) (rf : Int32) (rw : Int32) (p0 : Int32) (hra : vp_in ra 32) (hrd : vp_in rd 32) (hrb : vp_in rb 32) : kMi l y_Ref_shifts b_Ref_shifts 6 (some .boolean) 4 92 D kCl [(dG, .int), (dS, .int), (dM, .int)] [.ref aT, .int p0] [(aT, .inr (11, [.ref bG, .ref bS, .ref bM, .int rl, .int rk, .int rr, .int re, .int rc, .int rd, .int ra, .int rb, .int rn, .int rf, .int rw])), (bG, .inl (dG, 32, .inl rg)), (bS, .inl (dS, 48, .inl rs)), (bM, .inl (dM, 16384, .inl rm))] (f_Ref_shifts p0 rg rs rc rd ra rb).1 [(aT, .inr (11, [.ref bG, .ref bS, .ref bM, .int rl, .int rk, .int rr, .int re, .int rc, .int rd, .int ra, .int rb, .int rn, .int rf, .int rw])), (bG, .inl (dG, 32, .inl (f_Ref_shifts p0 rg rs rc rd ra rb).2.1)), (bS, .inl (dS, 48, .inl (f_Ref_shifts p0 rg rs rc rd ra rb).2.2)), (bM, .inl (dM, 16384, .inl rm))] := by
  refine k_entry (Qc := fun A => kQi D kCl [(dG, .int), (dS, .int), (dM, .int)] (f_Ref_shifts p0 rg rs rc rd ra rb).1 [(aT, .inr (11, [.ref bG, .ref bS, .ref bM, .int rl, .int rk, .int rr, .int re, .int rc, .int rd, .int ra, .int rb, .int rn, .int rf, .int rw])), (bG, .inl (dG, 32, .inl (f_Ref_shifts p0 rg rs rc rd ra rb).2.1)), (bS, .inl (dS, 48, .inl (f_Ref_shifts p0 rg rs rc rd ra rb).2.2)), (bM, .inl (dM, 16384, .inl rm))] A) (lv := [(0, .ref aT), (1, .int p0)]) (by decide) (Nat.le_of_ble_eq_true rfl) rfl ?_
  intro p e s m below meth c A ls hx hb hr hml hB hown hlocks hin hA hK hN hP hD hS hl
  have hown : s.vm.findClass "MappedProcessorModel" = some m.cls := hown
  refine lv_aload_n hx hb d_Ref_shifts_0 rfl (lv_at hl 0 rfl) ?_
  refine va_get (D := D) (ci := 11) (v := .ref bG) (C := "MappedProcessorModel") (T := T_Ref) (N := 14) hx hb hB iw_Ref hown hK hP 0 rfl rfl 0 (by decide) (hB _ mw_643) (fun _ h9 => h9) rfl d_Ref_shifts_1 ?_
  refine lv_aload_n hx hb d_Ref_shifts_4 rfl (lv_at hl 0 rfl) ?_
  refine va_get (D := D) (ci := 11) (v := .int rd) (C := "MappedProcessorModel") (T := T_Ref) (N := 14) hx hb hB iw_Ref hown hK hP 0 rfl rfl 8 (by decide) (hB _ mw_651) (fun _ h9 => h9) rfl d_Ref_shifts_5 ?_
  refine k_iald (j := (ix rd)) hx hb hK hP 1 0 rfl rfl rfl hrd d_Ref_shifts_8 ?_
  refine lv_istore_n (lv' := [(2, .int (rg (ix rd))), (0, .ref aT), (1, .int p0)]) hx hb d_Ref_shifts_9 rfl hl (by decide) rfl (fun ls hl => ?_)
  refine lv_iload_n hx hb d_Ref_shifts_10 rfl (lv_at hl 2 rfl) ?_
  refine lv_sipush (v := (824 : Int32)) hx hb d_Ref_shifts_11 (by decide) ?_
  refine k_join2 (c0 := p0 = (824 : Int32)) (x1 := rb) (x2 := ((rg (ix rb)) &&& (63 : Int32))) (rest := []) 36 ?_ (fun k2 k3 => ?_)
  rotate_left
  · refine lv_icmp_ne (tgt := 24) hx hb d_Ref_shifts_14 (by decide) (fun (h1 : ¬ p0 = (824 : Int32)) => ?_) (fun (h1 : p0 = (824 : Int32)) => ?_)
    · refine lv_aload_n hx hb d_Ref_shifts_24 rfl (lv_at hl 1 rfl) ?_
      refine va_get (D := D) (ci := 11) (v := .ref bG) (C := "MappedProcessorModel") (T := T_Ref) (N := 14) hx hb hB iw_Ref hown hK hP 0 rfl rfl 0 (by decide) (hB _ mw_643) (fun _ h9 => h9) rfl d_Ref_shifts_25 ?_
      refine lv_aload_n hx hb d_Ref_shifts_28 rfl (lv_at hl 1 rfl) ?_
      refine va_get (D := D) (ci := 11) (v := .int rb) (C := "MappedProcessorModel") (T := T_Ref) (N := 14) hx hb hB iw_Ref hown hK hP 0 rfl rfl 10 (by decide) (hB _ mw_653) (fun _ h9 => h9) rfl d_Ref_shifts_29 ?_
      refine k_iald (j := (ix rb)) hx hb hK hP 1 0 rfl rfl rfl hrb d_Ref_shifts_32 ?_
      refine lv_bipush (v := (63 : Int32)) hx hb d_Ref_shifts_33 (by decide) ?_
      refine lv_iand hx hb d_Ref_shifts_35 ?_
      exact k3 h1
    · refine lv_aload_n hx hb d_Ref_shifts_17 rfl (lv_at hl 1 rfl) ?_
      refine va_get (D := D) (ci := 11) (v := .int rb) (C := "MappedProcessorModel") (T := T_Ref) (N := 14) hx hb hB iw_Ref hown hK hP 0 rfl rfl 10 (by decide) (hB _ mw_653) (fun _ h9 => h9) rfl d_Ref_shifts_18 ?_
      refine lv_goto (tgt := 36) hx hb d_Ref_shifts_21 (by decide) ?_
      exact k2 h1
  refine lv_istore_n (lv' := [(3, .int (if p0 = (824 : Int32) then rb else ((rg (ix rb)) &&& (63 : Int32)))), (2, .int (rg (ix rd))), (0, .ref aT), (1, .int p0)]) hx hb d_Ref_shifts_36 rfl hl (by decide) rfl (fun ls hl => ?_)
  refine lv_iload_n hx hb d_Ref_shifts_37 rfl (lv_at hl 3 rfl) ?_
  refine lv_bipush (v := (24 : Int32)) hx hb d_Ref_shifts_38 (by decide) ?_
  refine lv_icmp_ne (tgt := 67) hx hb d_Ref_shifts_40 (by decide) (fun (h6 : ¬ p0 = (24 : Int32)) => ?_) (fun (h6 : p0 = (24 : Int32)) => ?_)
  · refine lv_iload_n hx hb d_Ref_shifts_67 rfl (lv_at hl 3 rfl) ?_
    refine lv_sipush (v := (536 : Int32)) hx hb d_Ref_shifts_68 (by decide) ?_
    refine lv_icmp_ne (tgt := 98) hx hb d_Ref_shifts_71 (by decide) (fun (h7 : ¬ p0 = (536 : Int32)) => ?_) (fun (h7 : p0 = (536 : Int32)) => ?_)
    · refine lv_iload_n hx hb d_Ref_shifts_98 rfl (lv_at hl 3 rfl) ?_
      refine lv_sipush (v := (792 : Int32)) hx hb d_Ref_shifts_99 (by decide) ?_
      refine lv_icmp_eq (tgt := 112) hx hb d_Ref_shifts_102 (by decide) (fun (h8 : p0 = (792 : Int32)) => ?_) (fun (h8 : ¬ p0 = (792 : Int32)) => ?_)
      · refine lv_iload_n hx hb d_Ref_shifts_112 rfl (lv_at hl 0 rfl) ?_
        refine lv_bipush (v := (31 : Int32)) hx hb d_Ref_shifts_113 (by decide) ?_
        refine k_join2 (c0 := (if p0 = (824 : Int32) then rb else ((rg (ix rb)) &&& (63 : Int32))) ≤ (31 : Int32)) (x1 := (shr (rg (ix rd)) (if p0 = (824 : Int32) then rb else ((rg (ix rb)) &&& (63 : Int32))))) (x2 := (shr (rg (ix rd)) (31 : Int32))) (rest := []) 128 ?_ (fun k10 k11 => ?_)
        rotate_left
        · refine lv_icmp_le (tgt := 125) hx hb d_Ref_shifts_115 (by decide) (fun (h9 : (if p0 = (824 : Int32) then rb else ((rg (ix rb)) &&& (63 : Int32))) ≤ (31 : Int32)) => ?_) (fun (h9 : ¬ (if p0 = (824 : Int32) then rb else ((rg (ix rb)) &&& (63 : Int32))) ≤ (31 : Int32)) => ?_)
          · refine lv_iload_n hx hb d_Ref_shifts_125 rfl (lv_at hl 1 rfl) ?_
            refine lv_iload_n hx hb d_Ref_shifts_126 rfl (lv_at hl 0 rfl) ?_
            refine lv_ishr hx hb d_Ref_shifts_127 ?_
            exact k10 h9
          · refine lv_iload_n hx hb d_Ref_shifts_118 rfl (lv_at hl 1 rfl) ?_
            refine lv_bipush (v := (31 : Int32)) hx hb d_Ref_shifts_119 (by decide) ?_
            refine lv_ishr hx hb d_Ref_shifts_121 ?_
            refine lv_goto (tgt := 128) hx hb d_Ref_shifts_122 (by decide) ?_
            exact k11 h9
        refine lv_istore (lv' := [(4, .int (if (if p0 = (824 : Int32) then rb else ((rg (ix rb)) &&& (63 : Int32))) ≤ (31 : Int32) then (shr (rg (ix rd)) (if p0 = (824 : Int32) then rb else ((rg (ix rb)) &&& (63 : Int32)))) else (shr (rg (ix rd)) (31 : Int32)))), (3, .int (if p0 = (824 : Int32) then rb else ((rg (ix rb)) &&& (63 : Int32)))), (2, .int (rg (ix rd))), (0, .ref aT), (1, .int p0)]) hx hb d_Ref_shifts_128 hl (by decide) rfl (fun ls hl => ?_)
        refine lv_iload_n hx hb d_Ref_shifts_130 rfl (lv_at hl 1 rfl) ?_
        refine lv_bipush (v := (31 : Int32)) hx hb d_Ref_shifts_131 (by decide) ?_
        refine k_join2 (c0 := (if p0 = (824 : Int32) then rb else ((rg (ix rb)) &&& (63 : Int32))) ≤ (31 : Int32)) (x1 := (shl (if (if p0 = (824 : Int32) then rb else ((rg (ix rb)) &&& (63 : Int32))) ≤ (31 : Int32) then (shr (rg (ix rd)) (if p0 = (824 : Int32) then rb else ((rg (ix rb)) &&& (63 : Int32)))) else (shr (rg (ix rd)) (31 : Int32))) (if p0 = (824 : Int32) then rb else ((rg (ix rb)) &&& (63 : Int32))))) (x2 := (0 : Int32)) (rest := []) 144 ?_ (fun k15 k16 => ?_)
        rotate_left
        · refine lv_icmp_le (tgt := 140) hx hb d_Ref_shifts_133 (by decide) (fun (h14 : (if p0 = (824 : Int32) then rb else ((rg (ix rb)) &&& (63 : Int32))) ≤ (31 : Int32)) => ?_) (fun (h14 : ¬ (if p0 = (824 : Int32) then rb else ((rg (ix rb)) &&& (63 : Int32))) ≤ (31 : Int32)) => ?_)
          · refine lv_iload hx hb d_Ref_shifts_140 (lv_at hl 0 rfl) ?_
            refine lv_iload_n hx hb d_Ref_shifts_142 rfl (lv_at hl 1 rfl) ?_
            refine lv_ishl hx hb d_Ref_shifts_143 ?_
            exact k15 h14
          · refine lv_iconst (v := (0 : Int32)) hx hb d_Ref_shifts_136 (by decide) ?_
            refine lv_goto (tgt := 144) hx hb d_Ref_shifts_137 (by decide) ?_
            exact k16 h14
        refine lv_istore (lv' := [(5, .int (if (if p0 = (824 : Int32) then rb else ((rg (ix rb)) &&& (63 : Int32))) ≤ (31 : Int32) then (shl (if (if p0 = (824 : Int32) then rb else ((rg (ix rb)) &&& (63 : Int32))) ≤ (31 : Int32) then (shr (rg (ix rd)) (if p0 = (824 : Int32) then rb else ((rg (ix rb)) &&& (63 : Int32)))) else (shr (rg (ix rd)) (31 : Int32))) (if p0 = (824 : Int32) then rb else ((rg (ix rb)) &&& (63 : Int32)))) else (0 : Int32))), (4, .int (if (if p0 = (824 : Int32) then rb else ((rg (ix rb)) &&& (63 : Int32))) ≤ (31 : Int32) then (shr (rg (ix rd)) (if p0 = (824 : Int32) then rb else ((rg (ix rb)) &&& (63 : Int32)))) else (shr (rg (ix rd)) (31 : Int32)))), (3, .int (if p0 = (824 : Int32) then rb else ((rg (ix rb)) &&& (63 : Int32)))), (2, .int (rg (ix rd))), (0, .ref aT), (1, .int p0)]) hx hb d_Ref_shifts_144 hl (by decide) rfl (fun ls hl => ?_)
        refine lv_aload_n hx hb d_Ref_shifts_146 rfl (lv_at hl 4 rfl) ?_
        refine lv_iload_n hx hb d_Ref_shifts_147 rfl (lv_at hl 3 rfl) ?_
        refine k_join2 (c0 := (0 : Int32) ≤ (rg (ix rd))) (x1 := (0 : Int32)) (x2 := (if (if (if p0 = (824 : Int32) then rb else ((rg (ix rb)) &&& (63 : Int32))) ≤ (31 : Int32) then (shl (if (if p0 = (824 : Int32) then rb else ((rg (ix rb)) &&& (63 : Int32))) ≤ (31 : Int32) then (shr (rg (ix rd)) (if p0 = (824 : Int32) then rb else ((rg (ix rb)) &&& (63 : Int32)))) else (shr (rg (ix rd)) (31 : Int32))) (if p0 = (824 : Int32) then rb else ((rg (ix rb)) &&& (63 : Int32)))) else (0 : Int32)) = (rg (ix rd)) then (0 : Int32) else (1 : Int32))) (rest := [.ref aT]) 162 ?_ (fun k20 k21 => ?_)
        rotate_left
        · refine lv_if_ge (tgt := 161) hx hb d_Ref_shifts_148 (by decide) (fun (h19 : (0 : Int32) ≤ (rg (ix rd))) => ?_) (fun (h19 : ¬ (0 : Int32) ≤ (rg (ix rd))) => ?_)
          · refine lv_iconst (v := (0 : Int32)) hx hb d_Ref_shifts_161 (by decide) ?_
            exact k20 h19
          · refine lv_iload hx hb d_Ref_shifts_151 (lv_at hl 0 rfl) ?_
            refine lv_iload_n hx hb d_Ref_shifts_153 rfl (lv_at hl 3 rfl) ?_
            refine k_join2 (c0 := (if (if p0 = (824 : Int32) then rb else ((rg (ix rb)) &&& (63 : Int32))) ≤ (31 : Int32) then (shl (if (if p0 = (824 : Int32) then rb else ((rg (ix rb)) &&& (63 : Int32))) ≤ (31 : Int32) then (shr (rg (ix rd)) (if p0 = (824 : Int32) then rb else ((rg (ix rb)) &&& (63 : Int32)))) else (shr (rg (ix rd)) (31 : Int32))) (if p0 = (824 : Int32) then rb else ((rg (ix rb)) &&& (63 : Int32)))) else (0 : Int32)) = (rg (ix rd))) (x1 := (0 : Int32)) (x2 := (1 : Int32)) (rest := [.ref aT]) 162 ?_ (fun k23 k24 => ?_)
            rotate_left
            · refine lv_icmp_eq (tgt := 161) hx hb d_Ref_shifts_154 (by decide) (fun (h22 : (if (if p0 = (824 : Int32) then rb else ((rg (ix rb)) &&& (63 : Int32))) ≤ (31 : Int32) then (shl (if (if p0 = (824 : Int32) then rb else ((rg (ix rb)) &&& (63 : Int32))) ≤ (31 : Int32) then (shr (rg (ix rd)) (if p0 = (824 : Int32) then rb else ((rg (ix rb)) &&& (63 : Int32)))) else (shr (rg (ix rd)) (31 : Int32))) (if p0 = (824 : Int32) then rb else ((rg (ix rb)) &&& (63 : Int32)))) else (0 : Int32)) = (rg (ix rd))) => ?_) (fun (h22 : ¬ (if (if p0 = (824 : Int32) then rb else ((rg (ix rb)) &&& (63 : Int32))) ≤ (31 : Int32) then (shl (if (if p0 = (824 : Int32) then rb else ((rg (ix rb)) &&& (63 : Int32))) ≤ (31 : Int32) then (shr (rg (ix rd)) (if p0 = (824 : Int32) then rb else ((rg (ix rb)) &&& (63 : Int32)))) else (shr (rg (ix rd)) (31 : Int32))) (if p0 = (824 : Int32) then rb else ((rg (ix rb)) &&& (63 : Int32)))) else (0 : Int32)) = (rg (ix rd))) => ?_)
              · refine lv_iconst (v := (0 : Int32)) hx hb d_Ref_shifts_161 (by decide) ?_
                exact k23 h22
              · refine lv_iconst (v := (1 : Int32)) hx hb d_Ref_shifts_157 (by decide) ?_
                refine lv_goto (tgt := 162) hx hb d_Ref_shifts_158 (by decide) ?_
                exact k24 h22
            exact k21 h19
        refine k_cVv (As := [.int (if (0 : Int32) ≤ (rg (ix rd)) then (0 : Int32) else (if (if (if p0 = (824 : Int32) then rb else ((rg (ix rb)) &&& (63 : Int32))) ≤ (31 : Int32) then (shl (if (if p0 = (824 : Int32) then rb else ((rg (ix rb)) &&& (63 : Int32))) ≤ (31 : Int32) then (shr (rg (ix rd)) (if p0 = (824 : Int32) then rb else ((rg (ix rb)) &&& (63 : Int32)))) else (shr (rg (ix rd)) (31 : Int32))) (if p0 = (824 : Int32) then rb else ((rg (ix rb)) &&& (63 : Int32)))) else (0 : Int32)) = (rg (ix rd)) then (0 : Int32) else (1 : Int32)))]) (rest := []) (wr := []) (wj := [(aT, .inr (11, [.ref bG, .ref bS, .ref bM, .int rl, .int rk, .int rr, .int re, .int rc, .int rd, .int ra, .int rb, .int rn, .int rf, .int rw])), (bG, .inl (dG, 32, .inl rg)), (bS, .inl (dS, 48, .inl (f_Ref_carry (if (0 : Int32) ≤ (rg (ix rd)) then (0 : Int32) else (if (if (if p0 = (824 : Int32) then rb else ((rg (ix rb)) &&& (63 : Int32))) ≤ (31 : Int32) then (shl (if (if p0 = (824 : Int32) then rb else ((rg (ix rb)) &&& (63 : Int32))) ≤ (31 : Int32) then (shr (rg (ix rd)) (if p0 = (824 : Int32) then rb else ((rg (ix rb)) &&& (63 : Int32)))) else (shr (rg (ix rd)) (31 : Int32))) (if p0 = (824 : Int32) then rb else ((rg (ix rb)) &&& (63 : Int32)))) else (0 : Int32)) = (rg (ix rd)) then (0 : Int32) else (1 : Int32))) rs))), (bM, .inl (dM, 16384, .inl rm))]) ⟨hx, hb, hml, hown, hB⟩ (c_Ref_carry l D aT bG bS bM dG dS dM rg rs rm rl rk rr re rc rd ra rb rn rf rw (if (0 : Int32) ≤ (rg (ix rd)) then (0 : Int32) else (if (if (if p0 = (824 : Int32) then rb else ((rg (ix rb)) &&& (63 : Int32))) ≤ (31 : Int32) then (shl (if (if p0 = (824 : Int32) then rb else ((rg (ix rb)) &&& (63 : Int32))) ≤ (31 : Int32) then (shr (rg (ix rd)) (if p0 = (824 : Int32) then rb else ((rg (ix rb)) &&& (63 : Int32)))) else (shr (rg (ix rd)) (31 : Int32))) (if p0 = (824 : Int32) then rb else ((rg (ix rb)) &&& (63 : Int32)))) else (0 : Int32)) = (rg (ix rd)) then (0 : Int32) else (1 : Int32)))) yl_Ref_carry mw_783 hK hN hP hD hS hA [0, 1, 2] [0, 1, 2, 3] [] [0, 1, 2, 3] rfl rfl rfl rfl (by decide +kernel) 0 rfl rfl rfl rfl hl.1 rfl (Nat.le_of_ble_eq_true rfl) ⟨Nat.le_of_ble_eq_true rfl, Nat.le_of_ble_eq_true rfl⟩ d_Ref_shifts_162 ⟨Nat.le_of_ble_eq_true rfl, Nat.le_of_ble_eq_true rfl⟩ (fun H locs hP hD hS => ?_)
        refine lv_aload_n hx hb d_Ref_shifts_165 rfl (lv_at hl 4 rfl) ?_
        refine lv_aload_n hx hb d_Ref_shifts_166 rfl (lv_at hl 4 rfl) ?_
        refine va_get (D := D) (ci := 11) (v := .int ra) (C := "MappedProcessorModel") (T := T_Ref) (N := 14) hx hb hB iw_Ref hown hK hP 0 rfl rfl 9 (by decide) (hB _ mw_652) (fun _ h9 => h9) rfl d_Ref_shifts_167 ?_
        refine lv_iload hx hb d_Ref_shifts_170 (lv_at hl 1 rfl) ?_
        let t29 := (f_Ref_result ra (if (if p0 = (824 : Int32) then rb else ((rg (ix rb)) &&& (63 : Int32))) ≤ (31 : Int32) then (shr (rg (ix rd)) (if p0 = (824 : Int32) then rb else ((rg (ix rb)) &&& (63 : Int32)))) else (shr (rg (ix rd)) (31 : Int32))) rg (f_Ref_carry (if (0 : Int32) ≤ (rg (ix rd)) then (0 : Int32) else (if (if (if p0 = (824 : Int32) then rb else ((rg (ix rb)) &&& (63 : Int32))) ≤ (31 : Int32) then (shl (if (if p0 = (824 : Int32) then rb else ((rg (ix rb)) &&& (63 : Int32))) ≤ (31 : Int32) then (shr (rg (ix rd)) (if p0 = (824 : Int32) then rb else ((rg (ix rb)) &&& (63 : Int32)))) else (shr (rg (ix rd)) (31 : Int32))) (if p0 = (824 : Int32) then rb else ((rg (ix rb)) &&& (63 : Int32)))) else (0 : Int32)) = (rg (ix rd)) then (0 : Int32) else (1 : Int32))) rs) rc)
        refine k_cVv (As := [.int ra, .int (if (if p0 = (824 : Int32) then rb else ((rg (ix rb)) &&& (63 : Int32))) ≤ (31 : Int32) then (shr (rg (ix rd)) (if p0 = (824 : Int32) then rb else ((rg (ix rb)) &&& (63 : Int32)))) else (shr (rg (ix rd)) (31 : Int32)))]) (rest := []) (wr := []) (wj := [(aT, .inr (11, [.ref bG, .ref bS, .ref bM, .int rl, .int rk, .int rr, .int re, .int rc, .int rd, .int ra, .int rb, .int rn, .int rf, .int rw])), (bG, .inl (dG, 32, .inl t29.1)), (bS, .inl (dS, 48, .inl t29.2)), (bM, .inl (dM, 16384, .inl rm))]) ⟨hx, hb, hml, hown, hB⟩ (c_Ref_result l D aT bG bS bM dG dS dM rg (f_Ref_carry (if (0 : Int32) ≤ (rg (ix rd)) then (0 : Int32) else (if (if (if p0 = (824 : Int32) then rb else ((rg (ix rb)) &&& (63 : Int32))) ≤ (31 : Int32) then (shl (if (if p0 = (824 : Int32) then rb else ((rg (ix rb)) &&& (63 : Int32))) ≤ (31 : Int32) then (shr (rg (ix rd)) (if p0 = (824 : Int32) then rb else ((rg (ix rb)) &&& (63 : Int32)))) else (shr (rg (ix rd)) (31 : Int32))) (if p0 = (824 : Int32) then rb else ((rg (ix rb)) &&& (63 : Int32)))) else (0 : Int32)) = (rg (ix rd)) then (0 : Int32) else (1 : Int32))) rs) rm rl rk rr re rc rd ra rb rn rf rw ra (if (if p0 = (824 : Int32) then rb else ((rg (ix rb)) &&& (63 : Int32))) ≤ (31 : Int32) then (shr (rg (ix rd)) (if p0 = (824 : Int32) then rb else ((rg (ix rb)) &&& (63 : Int32)))) else (shr (rg (ix rd)) (31 : Int32))) hra) yl_Ref_result mw_842 hK hN hP hD hS hA [0, 1, 2] [0, 1, 2, 3] [] [0, 1, 2, 3] rfl rfl rfl rfl (by decide +kernel) 0 rfl rfl rfl rfl hl.1 rfl (Nat.le_of_ble_eq_true rfl) ⟨Nat.le_of_ble_eq_true rfl, Nat.le_of_ble_eq_true rfl⟩ d_Ref_shifts_172 ⟨Nat.le_of_ble_eq_true rfl, Nat.le_of_ble_eq_true rfl⟩ (fun H locs hP hD hS => ?_)
        refine lv_goto (tgt := 251) hx hb d_Ref_shifts_175 (by decide) ?_
        refine lv_iconst (v := (1 : Int32)) hx hb d_Ref_shifts_251 (by decide) ?_
        have ef : f_Ref_shifts p0 rg rs rc rd ra rb = ((1 : Int32), t29.1, t29.2) := by unfold f_Ref_shifts; try dsimp only; rw [if_neg h6, if_neg h7, if_pos h8]
        exact k_zret hx hb hr hlocks hK hP hD hS [0, 1, 2, 3] rfl (by rw [ef] <;> rfl) (by rw [ef] <;> rfl) nb1 d_Ref_shifts_252
      · refine lv_iload_n hx hb d_Ref_shifts_105 rfl (lv_at hl 3 rfl) ?_
        refine lv_sipush (v := (824 : Int32)) hx hb d_Ref_shifts_106 (by decide) ?_
        refine lv_icmp_ne (tgt := 178) hx hb d_Ref_shifts_109 (by decide) (fun (h30 : ¬ p0 = (824 : Int32)) => ?_) (fun (h30 : p0 = (824 : Int32)) => ?_)
        · refine lv_iload_n hx hb d_Ref_shifts_178 rfl (lv_at hl 3 rfl) ?_
          refine lv_bipush (v := (26 : Int32)) hx hb d_Ref_shifts_179 (by decide) ?_
          refine lv_icmp_ne (tgt := 199) hx hb d_Ref_shifts_181 (by decide) (fun (h31 : ¬ p0 = (26 : Int32)) => ?_) (fun (h31 : p0 = (26 : Int32)) => ?_)
          · refine lv_iload_n hx hb d_Ref_shifts_199 rfl (lv_at hl 3 rfl) ?_
            refine lv_sipush (v := (954 : Int32)) hx hb d_Ref_shifts_200 (by decide) ?_
            refine lv_icmp_ne (tgt := 224) hx hb d_Ref_shifts_203 (by decide) (fun (h32 : ¬ p0 = (954 : Int32)) => ?_) (fun (h32 : p0 = (954 : Int32)) => ?_)
            · refine lv_iload_n hx hb d_Ref_shifts_224 rfl (lv_at hl 3 rfl) ?_
              refine lv_sipush (v := (922 : Int32)) hx hb d_Ref_shifts_225 (by decide) ?_
              refine lv_icmp_ne (tgt := 249) hx hb d_Ref_shifts_228 (by decide) (fun (h33 : ¬ p0 = (922 : Int32)) => ?_) (fun (h33 : p0 = (922 : Int32)) => ?_)
              · refine lv_iconst (v := (0 : Int32)) hx hb d_Ref_shifts_249 (by decide) ?_
                have ef : f_Ref_shifts p0 rg rs rc rd ra rb = ((0 : Int32), rg, rs) := by unfold f_Ref_shifts; try dsimp only; rw [if_neg h6, if_neg h7, if_neg h8, if_neg h30, if_neg h31, if_neg h32, if_neg h33]
                exact k_zret hx hb hr hlocks hK hP hD hS [0, 1, 2, 3] rfl (by rw [ef] <;> rfl) (by rw [ef] <;> rfl) nb0 d_Ref_shifts_250
              · refine lv_aload_n hx hb d_Ref_shifts_231 rfl (lv_at hl 2 rfl) ?_
                refine lv_aload_n hx hb d_Ref_shifts_232 rfl (lv_at hl 2 rfl) ?_
                refine va_get (D := D) (ci := 11) (v := .int ra) (C := "MappedProcessorModel") (T := T_Ref) (N := 14) hx hb hB iw_Ref hown hK hP 0 rfl rfl 9 (by decide) (hB _ mw_652) (fun _ h9 => h9) rfl d_Ref_shifts_233 ?_
                refine lv_iload_n hx hb d_Ref_shifts_236 rfl (lv_at hl 1 rfl) ?_
                refine lv_bipush (v := (16 : Int32)) hx hb d_Ref_shifts_237 (by decide) ?_
                refine lv_ishl hx hb d_Ref_shifts_239 ?_
                refine lv_bipush (v := (16 : Int32)) hx hb d_Ref_shifts_240 (by decide) ?_
                refine lv_ishr hx hb d_Ref_shifts_242 ?_
                let t34 := (f_Ref_result ra (shr (shl (rg (ix rd)) (16 : Int32)) (16 : Int32)) rg rs rc)
                refine k_cVv (As := [.int ra, .int (shr (shl (rg (ix rd)) (16 : Int32)) (16 : Int32))]) (rest := []) (wr := []) (wj := [(aT, .inr (11, [.ref bG, .ref bS, .ref bM, .int rl, .int rk, .int rr, .int re, .int rc, .int rd, .int ra, .int rb, .int rn, .int rf, .int rw])), (bG, .inl (dG, 32, .inl t34.1)), (bS, .inl (dS, 48, .inl t34.2)), (bM, .inl (dM, 16384, .inl rm))]) ⟨hx, hb, hml, hown, hB⟩ (c_Ref_result l D aT bG bS bM dG dS dM rg rs rm rl rk rr re rc rd ra rb rn rf rw ra (shr (shl (rg (ix rd)) (16 : Int32)) (16 : Int32)) hra) yl_Ref_result mw_842 hK hN hP hD hS hA [0, 1, 2] [0, 1, 2, 3] [] [0, 1, 2, 3] rfl rfl rfl rfl (by decide +kernel) 0 rfl rfl rfl rfl hl.1 rfl (Nat.le_of_ble_eq_true rfl) ⟨Nat.le_of_ble_eq_true rfl, Nat.le_of_ble_eq_true rfl⟩ d_Ref_shifts_243 ⟨Nat.le_of_ble_eq_true rfl, Nat.le_of_ble_eq_true rfl⟩ (fun H locs hP hD hS => ?_)
                refine lv_goto (tgt := 251) hx hb d_Ref_shifts_246 (by decide) ?_
                refine lv_iconst (v := (1 : Int32)) hx hb d_Ref_shifts_251 (by decide) ?_
                have ef : f_Ref_shifts p0 rg rs rc rd ra rb = ((1 : Int32), t34.1, t34.2) := by unfold f_Ref_shifts; try dsimp only; rw [if_neg h6, if_neg h7, if_neg h8, if_neg h30, if_neg h31, if_neg h32, if_pos h33]
                exact k_zret hx hb hr hlocks hK hP hD hS [0, 1, 2, 3] rfl (by rw [ef] <;> rfl) (by rw [ef] <;> rfl) nb1 d_Ref_shifts_252
            · refine lv_aload_n hx hb d_Ref_shifts_206 rfl (lv_at hl 2 rfl) ?_
              refine lv_aload_n hx hb d_Ref_shifts_207 rfl (lv_at hl 2 rfl) ?_
              refine va_get (D := D) (ci := 11) (v := .int ra) (C := "MappedProcessorModel") (T := T_Ref) (N := 14) hx hb hB iw_Ref hown hK hP 0 rfl rfl 9 (by decide) (hB _ mw_652) (fun _ h9 => h9) rfl d_Ref_shifts_208 ?_
              refine lv_iload_n hx hb d_Ref_shifts_211 rfl (lv_at hl 1 rfl) ?_
              refine lv_bipush (v := (24 : Int32)) hx hb d_Ref_shifts_212 (by decide) ?_
              refine lv_ishl hx hb d_Ref_shifts_214 ?_
              refine lv_bipush (v := (24 : Int32)) hx hb d_Ref_shifts_215 (by decide) ?_
              refine lv_ishr hx hb d_Ref_shifts_217 ?_
              let t35 := (f_Ref_result ra (shr (shl (rg (ix rd)) (24 : Int32)) (24 : Int32)) rg rs rc)
              refine k_cVv (As := [.int ra, .int (shr (shl (rg (ix rd)) (24 : Int32)) (24 : Int32))]) (rest := []) (wr := []) (wj := [(aT, .inr (11, [.ref bG, .ref bS, .ref bM, .int rl, .int rk, .int rr, .int re, .int rc, .int rd, .int ra, .int rb, .int rn, .int rf, .int rw])), (bG, .inl (dG, 32, .inl t35.1)), (bS, .inl (dS, 48, .inl t35.2)), (bM, .inl (dM, 16384, .inl rm))]) ⟨hx, hb, hml, hown, hB⟩ (c_Ref_result l D aT bG bS bM dG dS dM rg rs rm rl rk rr re rc rd ra rb rn rf rw ra (shr (shl (rg (ix rd)) (24 : Int32)) (24 : Int32)) hra) yl_Ref_result mw_842 hK hN hP hD hS hA [0, 1, 2] [0, 1, 2, 3] [] [0, 1, 2, 3] rfl rfl rfl rfl (by decide +kernel) 0 rfl rfl rfl rfl hl.1 rfl (Nat.le_of_ble_eq_true rfl) ⟨Nat.le_of_ble_eq_true rfl, Nat.le_of_ble_eq_true rfl⟩ d_Ref_shifts_218 ⟨Nat.le_of_ble_eq_true rfl, Nat.le_of_ble_eq_true rfl⟩ (fun H locs hP hD hS => ?_)
              refine lv_goto (tgt := 251) hx hb d_Ref_shifts_221 (by decide) ?_
              refine lv_iconst (v := (1 : Int32)) hx hb d_Ref_shifts_251 (by decide) ?_
              have ef : f_Ref_shifts p0 rg rs rc rd ra rb = ((1 : Int32), t35.1, t35.2) := by unfold f_Ref_shifts; try dsimp only; rw [if_neg h6, if_neg h7, if_neg h8, if_neg h30, if_neg h31, if_pos h32]
              exact k_zret hx hb hr hlocks hK hP hD hS [0, 1, 2, 3] rfl (by rw [ef] <;> rfl) (by rw [ef] <;> rfl) nb1 d_Ref_shifts_252
          · refine lv_aload_n hx hb d_Ref_shifts_184 rfl (lv_at hl 2 rfl) ?_
            refine lv_aload_n hx hb d_Ref_shifts_185 rfl (lv_at hl 2 rfl) ?_
            refine va_get (D := D) (ci := 11) (v := .int ra) (C := "MappedProcessorModel") (T := T_Ref) (N := 14) hx hb hB iw_Ref hown hK hP 0 rfl rfl 9 (by decide) (hB _ mw_652) (fun _ h9 => h9) rfl d_Ref_shifts_186 ?_
            refine lv_iload_n hx hb d_Ref_shifts_189 rfl (lv_at hl 1 rfl) ?_
            refine k_cSi (As := [.int (rg (ix rd))]) (rest := [.int ra, .ref aT]) (wr := [(aT, .inr (11, [.ref bG, .ref bS, .ref bM, .int rl, .int rk, .int rr, .int re, .int rc, .int rd, .int ra, .int rb, .int rn, .int rf, .int rw])), (bG, .inl (dG, 32, .inl rg)), (bS, .inl (dS, 48, .inl rs)), (bM, .inl (dM, 16384, .inl rm))]) (wj := [(aT, .inr (11, [.ref bG, .ref bS, .ref bM, .int rl, .int rk, .int rr, .int re, .int rc, .int rd, .int ra, .int rb, .int rn, .int rf, .int rw])), (bG, .inl (dG, 32, .inl rg)), (bS, .inl (dS, 48, .inl rs)), (bM, .inl (dM, 16384, .inl rm))]) ⟨hx, hb, hml, hown, hB⟩ (c_Ref_zeros l D (rg (ix rd))) yl_Ref_zeros mw_878 hK hN hP hD hS hA [] [] [0, 1, 2, 3] [0, 1, 2, 3] rfl rfl rfl rfl (by decide +kernel) rfl hl.1 rfl (Nat.le_of_ble_eq_true rfl) ⟨Nat.le_of_ble_eq_true rfl, Nat.le_of_ble_eq_true rfl⟩ d_Ref_shifts_190 ⟨Nat.le_of_ble_eq_true rfl, Nat.le_of_ble_eq_true rfl⟩ (fun H locs hP hD hS => ?_)
            let t36 := (f_Ref_result ra (f_Ref_zeros (rg (ix rd))) rg rs rc)
            refine k_cVv (As := [.int ra, .int (f_Ref_zeros (rg (ix rd)))]) (rest := []) (wr := []) (wj := [(aT, .inr (11, [.ref bG, .ref bS, .ref bM, .int rl, .int rk, .int rr, .int re, .int rc, .int rd, .int ra, .int rb, .int rn, .int rf, .int rw])), (bG, .inl (dG, 32, .inl t36.1)), (bS, .inl (dS, 48, .inl t36.2)), (bM, .inl (dM, 16384, .inl rm))]) ⟨hx, hb, hml, hown, hB⟩ (c_Ref_result l D aT bG bS bM dG dS dM rg rs rm rl rk rr re rc rd ra rb rn rf rw ra (f_Ref_zeros (rg (ix rd))) hra) yl_Ref_result mw_842 hK hN hP hD hS hA [0, 1, 2] [0, 1, 2, 3] [] [0, 1, 2, 3] rfl rfl rfl rfl (by decide +kernel) 0 rfl rfl rfl rfl hl.1 rfl (Nat.le_of_ble_eq_true rfl) ⟨Nat.le_of_ble_eq_true rfl, Nat.le_of_ble_eq_true rfl⟩ d_Ref_shifts_193 ⟨Nat.le_of_ble_eq_true rfl, Nat.le_of_ble_eq_true rfl⟩ (fun H locs hP hD hS => ?_)
            refine lv_goto (tgt := 251) hx hb d_Ref_shifts_196 (by decide) ?_
            refine lv_iconst (v := (1 : Int32)) hx hb d_Ref_shifts_251 (by decide) ?_
            have ef : f_Ref_shifts p0 rg rs rc rd ra rb = ((1 : Int32), t36.1, t36.2) := by unfold f_Ref_shifts; try dsimp only; rw [if_neg h6, if_neg h7, if_neg h8, if_neg h30, if_pos h31]
            exact k_zret hx hb hr hlocks hK hP hD hS [0, 1, 2, 3] rfl (by rw [ef] <;> rfl) (by rw [ef] <;> rfl) nb1 d_Ref_shifts_252
        · refine lv_iload_n hx hb d_Ref_shifts_112 rfl (lv_at hl 0 rfl) ?_
          refine lv_bipush (v := (31 : Int32)) hx hb d_Ref_shifts_113 (by decide) ?_
          refine k_join2 (c0 := (if p0 = (824 : Int32) then rb else ((rg (ix rb)) &&& (63 : Int32))) ≤ (31 : Int32)) (x1 := (shr (rg (ix rd)) (if p0 = (824 : Int32) then rb else ((rg (ix rb)) &&& (63 : Int32))))) (x2 := (shr (rg (ix rd)) (31 : Int32))) (rest := []) 128 ?_ (fun k38 k39 => ?_)
          rotate_left
          · refine lv_icmp_le (tgt := 125) hx hb d_Ref_shifts_115 (by decide) (fun (h37 : (if p0 = (824 : Int32) then rb else ((rg (ix rb)) &&& (63 : Int32))) ≤ (31 : Int32)) => ?_) (fun (h37 : ¬ (if p0 = (824 : Int32) then rb else ((rg (ix rb)) &&& (63 : Int32))) ≤ (31 : Int32)) => ?_)
            · refine lv_iload_n hx hb d_Ref_shifts_125 rfl (lv_at hl 1 rfl) ?_
              refine lv_iload_n hx hb d_Ref_shifts_126 rfl (lv_at hl 0 rfl) ?_
              refine lv_ishr hx hb d_Ref_shifts_127 ?_
              exact k38 h37
            · refine lv_iload_n hx hb d_Ref_shifts_118 rfl (lv_at hl 1 rfl) ?_
              refine lv_bipush (v := (31 : Int32)) hx hb d_Ref_shifts_119 (by decide) ?_
              refine lv_ishr hx hb d_Ref_shifts_121 ?_
              refine lv_goto (tgt := 128) hx hb d_Ref_shifts_122 (by decide) ?_
              exact k39 h37
          refine lv_istore (lv' := [(4, .int (if (if p0 = (824 : Int32) then rb else ((rg (ix rb)) &&& (63 : Int32))) ≤ (31 : Int32) then (shr (rg (ix rd)) (if p0 = (824 : Int32) then rb else ((rg (ix rb)) &&& (63 : Int32)))) else (shr (rg (ix rd)) (31 : Int32)))), (3, .int (if p0 = (824 : Int32) then rb else ((rg (ix rb)) &&& (63 : Int32)))), (2, .int (rg (ix rd))), (0, .ref aT), (1, .int p0)]) hx hb d_Ref_shifts_128 hl (by decide) rfl (fun ls hl => ?_)
          refine lv_iload_n hx hb d_Ref_shifts_130 rfl (lv_at hl 1 rfl) ?_
          refine lv_bipush (v := (31 : Int32)) hx hb d_Ref_shifts_131 (by decide) ?_
          refine k_join2 (c0 := (if p0 = (824 : Int32) then rb else ((rg (ix rb)) &&& (63 : Int32))) ≤ (31 : Int32)) (x1 := (shl (if (if p0 = (824 : Int32) then rb else ((rg (ix rb)) &&& (63 : Int32))) ≤ (31 : Int32) then (shr (rg (ix rd)) (if p0 = (824 : Int32) then rb else ((rg (ix rb)) &&& (63 : Int32)))) else (shr (rg (ix rd)) (31 : Int32))) (if p0 = (824 : Int32) then rb else ((rg (ix rb)) &&& (63 : Int32))))) (x2 := (0 : Int32)) (rest := []) 144 ?_ (fun k43 k44 => ?_)
          rotate_left
          · refine lv_icmp_le (tgt := 140) hx hb d_Ref_shifts_133 (by decide) (fun (h42 : (if p0 = (824 : Int32) then rb else ((rg (ix rb)) &&& (63 : Int32))) ≤ (31 : Int32)) => ?_) (fun (h42 : ¬ (if p0 = (824 : Int32) then rb else ((rg (ix rb)) &&& (63 : Int32))) ≤ (31 : Int32)) => ?_)
            · refine lv_iload hx hb d_Ref_shifts_140 (lv_at hl 0 rfl) ?_
              refine lv_iload_n hx hb d_Ref_shifts_142 rfl (lv_at hl 1 rfl) ?_
              refine lv_ishl hx hb d_Ref_shifts_143 ?_
              exact k43 h42
            · refine lv_iconst (v := (0 : Int32)) hx hb d_Ref_shifts_136 (by decide) ?_
              refine lv_goto (tgt := 144) hx hb d_Ref_shifts_137 (by decide) ?_
              exact k44 h42
          refine lv_istore (lv' := [(5, .int (if (if p0 = (824 : Int32) then rb else ((rg (ix rb)) &&& (63 : Int32))) ≤ (31 : Int32) then (shl (if (if p0 = (824 : Int32) then rb else ((rg (ix rb)) &&& (63 : Int32))) ≤ (31 : Int32) then (shr (rg (ix rd)) (if p0 = (824 : Int32) then rb else ((rg (ix rb)) &&& (63 : Int32)))) else (shr (rg (ix rd)) (31 : Int32))) (if p0 = (824 : Int32) then rb else ((rg (ix rb)) &&& (63 : Int32)))) else (0 : Int32))), (4, .int (if (if p0 = (824 : Int32) then rb else ((rg (ix rb)) &&& (63 : Int32))) ≤ (31 : Int32) then (shr (rg (ix rd)) (if p0 = (824 : Int32) then rb else ((rg (ix rb)) &&& (63 : Int32)))) else (shr (rg (ix rd)) (31 : Int32)))), (3, .int (if p0 = (824 : Int32) then rb else ((rg (ix rb)) &&& (63 : Int32)))), (2, .int (rg (ix rd))), (0, .ref aT), (1, .int p0)]) hx hb d_Ref_shifts_144 hl (by decide) rfl (fun ls hl => ?_)
          refine lv_aload_n hx hb d_Ref_shifts_146 rfl (lv_at hl 4 rfl) ?_
          refine lv_iload_n hx hb d_Ref_shifts_147 rfl (lv_at hl 3 rfl) ?_
          refine k_join2 (c0 := (0 : Int32) ≤ (rg (ix rd))) (x1 := (0 : Int32)) (x2 := (if (if (if p0 = (824 : Int32) then rb else ((rg (ix rb)) &&& (63 : Int32))) ≤ (31 : Int32) then (shl (if (if p0 = (824 : Int32) then rb else ((rg (ix rb)) &&& (63 : Int32))) ≤ (31 : Int32) then (shr (rg (ix rd)) (if p0 = (824 : Int32) then rb else ((rg (ix rb)) &&& (63 : Int32)))) else (shr (rg (ix rd)) (31 : Int32))) (if p0 = (824 : Int32) then rb else ((rg (ix rb)) &&& (63 : Int32)))) else (0 : Int32)) = (rg (ix rd)) then (0 : Int32) else (1 : Int32))) (rest := [.ref aT]) 162 ?_ (fun k48 k49 => ?_)
          rotate_left
          · refine lv_if_ge (tgt := 161) hx hb d_Ref_shifts_148 (by decide) (fun (h47 : (0 : Int32) ≤ (rg (ix rd))) => ?_) (fun (h47 : ¬ (0 : Int32) ≤ (rg (ix rd))) => ?_)
            · refine lv_iconst (v := (0 : Int32)) hx hb d_Ref_shifts_161 (by decide) ?_
              exact k48 h47
            · refine lv_iload hx hb d_Ref_shifts_151 (lv_at hl 0 rfl) ?_
              refine lv_iload_n hx hb d_Ref_shifts_153 rfl (lv_at hl 3 rfl) ?_
              refine k_join2 (c0 := (if (if p0 = (824 : Int32) then rb else ((rg (ix rb)) &&& (63 : Int32))) ≤ (31 : Int32) then (shl (if (if p0 = (824 : Int32) then rb else ((rg (ix rb)) &&& (63 : Int32))) ≤ (31 : Int32) then (shr (rg (ix rd)) (if p0 = (824 : Int32) then rb else ((rg (ix rb)) &&& (63 : Int32)))) else (shr (rg (ix rd)) (31 : Int32))) (if p0 = (824 : Int32) then rb else ((rg (ix rb)) &&& (63 : Int32)))) else (0 : Int32)) = (rg (ix rd))) (x1 := (0 : Int32)) (x2 := (1 : Int32)) (rest := [.ref aT]) 162 ?_ (fun k51 k52 => ?_)
              rotate_left
              · refine lv_icmp_eq (tgt := 161) hx hb d_Ref_shifts_154 (by decide) (fun (h50 : (if (if p0 = (824 : Int32) then rb else ((rg (ix rb)) &&& (63 : Int32))) ≤ (31 : Int32) then (shl (if (if p0 = (824 : Int32) then rb else ((rg (ix rb)) &&& (63 : Int32))) ≤ (31 : Int32) then (shr (rg (ix rd)) (if p0 = (824 : Int32) then rb else ((rg (ix rb)) &&& (63 : Int32)))) else (shr (rg (ix rd)) (31 : Int32))) (if p0 = (824 : Int32) then rb else ((rg (ix rb)) &&& (63 : Int32)))) else (0 : Int32)) = (rg (ix rd))) => ?_) (fun (h50 : ¬ (if (if p0 = (824 : Int32) then rb else ((rg (ix rb)) &&& (63 : Int32))) ≤ (31 : Int32) then (shl (if (if p0 = (824 : Int32) then rb else ((rg (ix rb)) &&& (63 : Int32))) ≤ (31 : Int32) then (shr (rg (ix rd)) (if p0 = (824 : Int32) then rb else ((rg (ix rb)) &&& (63 : Int32)))) else (shr (rg (ix rd)) (31 : Int32))) (if p0 = (824 : Int32) then rb else ((rg (ix rb)) &&& (63 : Int32)))) else (0 : Int32)) = (rg (ix rd))) => ?_)
                · refine lv_iconst (v := (0 : Int32)) hx hb d_Ref_shifts_161 (by decide) ?_
                  exact k51 h50
                · refine lv_iconst (v := (1 : Int32)) hx hb d_Ref_shifts_157 (by decide) ?_
                  refine lv_goto (tgt := 162) hx hb d_Ref_shifts_158 (by decide) ?_
                  exact k52 h50
              exact k49 h47
          refine k_cVv (As := [.int (if (0 : Int32) ≤ (rg (ix rd)) then (0 : Int32) else (if (if (if p0 = (824 : Int32) then rb else ((rg (ix rb)) &&& (63 : Int32))) ≤ (31 : Int32) then (shl (if (if p0 = (824 : Int32) then rb else ((rg (ix rb)) &&& (63 : Int32))) ≤ (31 : Int32) then (shr (rg (ix rd)) (if p0 = (824 : Int32) then rb else ((rg (ix rb)) &&& (63 : Int32)))) else (shr (rg (ix rd)) (31 : Int32))) (if p0 = (824 : Int32) then rb else ((rg (ix rb)) &&& (63 : Int32)))) else (0 : Int32)) = (rg (ix rd)) then (0 : Int32) else (1 : Int32)))]) (rest := []) (wr := []) (wj := [(aT, .inr (11, [.ref bG, .ref bS, .ref bM, .int rl, .int rk, .int rr, .int re, .int rc, .int rd, .int ra, .int rb, .int rn, .int rf, .int rw])), (bG, .inl (dG, 32, .inl rg)), (bS, .inl (dS, 48, .inl (f_Ref_carry (if (0 : Int32) ≤ (rg (ix rd)) then (0 : Int32) else (if (if (if p0 = (824 : Int32) then rb else ((rg (ix rb)) &&& (63 : Int32))) ≤ (31 : Int32) then (shl (if (if p0 = (824 : Int32) then rb else ((rg (ix rb)) &&& (63 : Int32))) ≤ (31 : Int32) then (shr (rg (ix rd)) (if p0 = (824 : Int32) then rb else ((rg (ix rb)) &&& (63 : Int32)))) else (shr (rg (ix rd)) (31 : Int32))) (if p0 = (824 : Int32) then rb else ((rg (ix rb)) &&& (63 : Int32)))) else (0 : Int32)) = (rg (ix rd)) then (0 : Int32) else (1 : Int32))) rs))), (bM, .inl (dM, 16384, .inl rm))]) ⟨hx, hb, hml, hown, hB⟩ (c_Ref_carry l D aT bG bS bM dG dS dM rg rs rm rl rk rr re rc rd ra rb rn rf rw (if (0 : Int32) ≤ (rg (ix rd)) then (0 : Int32) else (if (if (if p0 = (824 : Int32) then rb else ((rg (ix rb)) &&& (63 : Int32))) ≤ (31 : Int32) then (shl (if (if p0 = (824 : Int32) then rb else ((rg (ix rb)) &&& (63 : Int32))) ≤ (31 : Int32) then (shr (rg (ix rd)) (if p0 = (824 : Int32) then rb else ((rg (ix rb)) &&& (63 : Int32)))) else (shr (rg (ix rd)) (31 : Int32))) (if p0 = (824 : Int32) then rb else ((rg (ix rb)) &&& (63 : Int32)))) else (0 : Int32)) = (rg (ix rd)) then (0 : Int32) else (1 : Int32)))) yl_Ref_carry mw_783 hK hN hP hD hS hA [0, 1, 2] [0, 1, 2, 3] [] [0, 1, 2, 3] rfl rfl rfl rfl (by decide +kernel) 0 rfl rfl rfl rfl hl.1 rfl (Nat.le_of_ble_eq_true rfl) ⟨Nat.le_of_ble_eq_true rfl, Nat.le_of_ble_eq_true rfl⟩ d_Ref_shifts_162 ⟨Nat.le_of_ble_eq_true rfl, Nat.le_of_ble_eq_true rfl⟩ (fun H locs hP hD hS => ?_)
          refine lv_aload_n hx hb d_Ref_shifts_165 rfl (lv_at hl 4 rfl) ?_
          refine lv_aload_n hx hb d_Ref_shifts_166 rfl (lv_at hl 4 rfl) ?_
          refine va_get (D := D) (ci := 11) (v := .int ra) (C := "MappedProcessorModel") (T := T_Ref) (N := 14) hx hb hB iw_Ref hown hK hP 0 rfl rfl 9 (by decide) (hB _ mw_652) (fun _ h9 => h9) rfl d_Ref_shifts_167 ?_
          refine lv_iload hx hb d_Ref_shifts_170 (lv_at hl 1 rfl) ?_
          let t57 := (f_Ref_result ra (if (if p0 = (824 : Int32) then rb else ((rg (ix rb)) &&& (63 : Int32))) ≤ (31 : Int32) then (shr (rg (ix rd)) (if p0 = (824 : Int32) then rb else ((rg (ix rb)) &&& (63 : Int32)))) else (shr (rg (ix rd)) (31 : Int32))) rg (f_Ref_carry (if (0 : Int32) ≤ (rg (ix rd)) then (0 : Int32) else (if (if (if p0 = (824 : Int32) then rb else ((rg (ix rb)) &&& (63 : Int32))) ≤ (31 : Int32) then (shl (if (if p0 = (824 : Int32) then rb else ((rg (ix rb)) &&& (63 : Int32))) ≤ (31 : Int32) then (shr (rg (ix rd)) (if p0 = (824 : Int32) then rb else ((rg (ix rb)) &&& (63 : Int32)))) else (shr (rg (ix rd)) (31 : Int32))) (if p0 = (824 : Int32) then rb else ((rg (ix rb)) &&& (63 : Int32)))) else (0 : Int32)) = (rg (ix rd)) then (0 : Int32) else (1 : Int32))) rs) rc)
          refine k_cVv (As := [.int ra, .int (if (if p0 = (824 : Int32) then rb else ((rg (ix rb)) &&& (63 : Int32))) ≤ (31 : Int32) then (shr (rg (ix rd)) (if p0 = (824 : Int32) then rb else ((rg (ix rb)) &&& (63 : Int32)))) else (shr (rg (ix rd)) (31 : Int32)))]) (rest := []) (wr := []) (wj := [(aT, .inr (11, [.ref bG, .ref bS, .ref bM, .int rl, .int rk, .int rr, .int re, .int rc, .int rd, .int ra, .int rb, .int rn, .int rf, .int rw])), (bG, .inl (dG, 32, .inl t57.1)), (bS, .inl (dS, 48, .inl t57.2)), (bM, .inl (dM, 16384, .inl rm))]) ⟨hx, hb, hml, hown, hB⟩ (c_Ref_result l D aT bG bS bM dG dS dM rg (f_Ref_carry (if (0 : Int32) ≤ (rg (ix rd)) then (0 : Int32) else (if (if (if p0 = (824 : Int32) then rb else ((rg (ix rb)) &&& (63 : Int32))) ≤ (31 : Int32) then (shl (if (if p0 = (824 : Int32) then rb else ((rg (ix rb)) &&& (63 : Int32))) ≤ (31 : Int32) then (shr (rg (ix rd)) (if p0 = (824 : Int32) then rb else ((rg (ix rb)) &&& (63 : Int32)))) else (shr (rg (ix rd)) (31 : Int32))) (if p0 = (824 : Int32) then rb else ((rg (ix rb)) &&& (63 : Int32)))) else (0 : Int32)) = (rg (ix rd)) then (0 : Int32) else (1 : Int32))) rs) rm rl rk rr re rc rd ra rb rn rf rw ra (if (if p0 = (824 : Int32) then rb else ((rg (ix rb)) &&& (63 : Int32))) ≤ (31 : Int32) then (shr (rg (ix rd)) (if p0 = (824 : Int32) then rb else ((rg (ix rb)) &&& (63 : Int32)))) else (shr (rg (ix rd)) (31 : Int32))) hra) yl_Ref_result mw_842 hK hN hP hD hS hA [0, 1, 2] [0, 1, 2, 3] [] [0, 1, 2, 3] rfl rfl rfl rfl (by decide +kernel) 0 rfl rfl rfl rfl hl.1 rfl (Nat.le_of_ble_eq_true rfl) ⟨Nat.le_of_ble_eq_true rfl, Nat.le_of_ble_eq_true rfl⟩ d_Ref_shifts_172 ⟨Nat.le_of_ble_eq_true rfl, Nat.le_of_ble_eq_true rfl⟩ (fun H locs hP hD hS => ?_)
          refine lv_goto (tgt := 251) hx hb d_Ref_shifts_175 (by decide) ?_
          refine lv_iconst (v := (1 : Int32)) hx hb d_Ref_shifts_251 (by decide) ?_
          have ef : f_Ref_shifts p0 rg rs rc rd ra rb = ((1 : Int32), t57.1, t57.2) := by unfold f_Ref_shifts; try dsimp only; rw [if_neg h6, if_neg h7, if_neg h8, if_pos h30]
          exact k_zret hx hb hr hlocks hK hP hD hS [0, 1, 2, 3] rfl (by rw [ef] <;> rfl) (by rw [ef] <;> rfl) nb1 d_Ref_shifts_252
    · refine lv_aload_n hx hb d_Ref_shifts_74 rfl (lv_at hl 2 rfl) ?_
      refine lv_aload_n hx hb d_Ref_shifts_75 rfl (lv_at hl 2 rfl) ?_
      refine va_get (D := D) (ci := 11) (v := .int ra) (C := "MappedProcessorModel") (T := T_Ref) (N := 14) hx hb hB iw_Ref hown hK hP 0 rfl rfl 9 (by decide) (hB _ mw_652) (fun _ h9 => h9) rfl d_Ref_shifts_76 ?_
      refine lv_iload_n hx hb d_Ref_shifts_79 rfl (lv_at hl 0 rfl) ?_
      refine lv_bipush (v := (31 : Int32)) hx hb d_Ref_shifts_80 (by decide) ?_
      refine k_join2 (c0 := (if p0 = (824 : Int32) then rb else ((rg (ix rb)) &&& (63 : Int32))) ≤ (31 : Int32)) (x1 := (ush (rg (ix rd)) (if p0 = (824 : Int32) then rb else ((rg (ix rb)) &&& (63 : Int32))))) (x2 := (0 : Int32)) (rest := [.int ra, .ref aT]) 92 ?_ (fun k59 k60 => ?_)
      rotate_left
      · refine lv_icmp_le (tgt := 89) hx hb d_Ref_shifts_82 (by decide) (fun (h58 : (if p0 = (824 : Int32) then rb else ((rg (ix rb)) &&& (63 : Int32))) ≤ (31 : Int32)) => ?_) (fun (h58 : ¬ (if p0 = (824 : Int32) then rb else ((rg (ix rb)) &&& (63 : Int32))) ≤ (31 : Int32)) => ?_)
        · refine lv_iload_n hx hb d_Ref_shifts_89 rfl (lv_at hl 1 rfl) ?_
          refine lv_iload_n hx hb d_Ref_shifts_90 rfl (lv_at hl 0 rfl) ?_
          refine lv_iushr (v := (ush (rg (ix rd)) (if p0 = (824 : Int32) then rb else ((rg (ix rb)) &&& (63 : Int32))))) hx hb d_Ref_shifts_91 rfl ?_
          exact k59 h58
        · refine lv_iconst (v := (0 : Int32)) hx hb d_Ref_shifts_85 (by decide) ?_
          refine lv_goto (tgt := 92) hx hb d_Ref_shifts_86 (by decide) ?_
          exact k60 h58
      let t63 := (f_Ref_result ra (if (if p0 = (824 : Int32) then rb else ((rg (ix rb)) &&& (63 : Int32))) ≤ (31 : Int32) then (ush (rg (ix rd)) (if p0 = (824 : Int32) then rb else ((rg (ix rb)) &&& (63 : Int32)))) else (0 : Int32)) rg rs rc)
      refine k_cVv (As := [.int ra, .int (if (if p0 = (824 : Int32) then rb else ((rg (ix rb)) &&& (63 : Int32))) ≤ (31 : Int32) then (ush (rg (ix rd)) (if p0 = (824 : Int32) then rb else ((rg (ix rb)) &&& (63 : Int32)))) else (0 : Int32))]) (rest := []) (wr := []) (wj := [(aT, .inr (11, [.ref bG, .ref bS, .ref bM, .int rl, .int rk, .int rr, .int re, .int rc, .int rd, .int ra, .int rb, .int rn, .int rf, .int rw])), (bG, .inl (dG, 32, .inl t63.1)), (bS, .inl (dS, 48, .inl t63.2)), (bM, .inl (dM, 16384, .inl rm))]) ⟨hx, hb, hml, hown, hB⟩ (c_Ref_result l D aT bG bS bM dG dS dM rg rs rm rl rk rr re rc rd ra rb rn rf rw ra (if (if p0 = (824 : Int32) then rb else ((rg (ix rb)) &&& (63 : Int32))) ≤ (31 : Int32) then (ush (rg (ix rd)) (if p0 = (824 : Int32) then rb else ((rg (ix rb)) &&& (63 : Int32)))) else (0 : Int32)) hra) yl_Ref_result mw_842 hK hN hP hD hS hA [0, 1, 2] [0, 1, 2, 3] [] [0, 1, 2, 3] rfl rfl rfl rfl (by decide +kernel) 0 rfl rfl rfl rfl hl.1 rfl (Nat.le_of_ble_eq_true rfl) ⟨Nat.le_of_ble_eq_true rfl, Nat.le_of_ble_eq_true rfl⟩ d_Ref_shifts_92 ⟨Nat.le_of_ble_eq_true rfl, Nat.le_of_ble_eq_true rfl⟩ (fun H locs hP hD hS => ?_)
      refine lv_goto (tgt := 251) hx hb d_Ref_shifts_95 (by decide) ?_
      refine lv_iconst (v := (1 : Int32)) hx hb d_Ref_shifts_251 (by decide) ?_
      have ef : f_Ref_shifts p0 rg rs rc rd ra rb = ((1 : Int32), t63.1, t63.2) := by unfold f_Ref_shifts; try dsimp only; rw [if_neg h6, if_pos h7]
      exact k_zret hx hb hr hlocks hK hP hD hS [0, 1, 2, 3] rfl (by rw [ef] <;> rfl) (by rw [ef] <;> rfl) nb1 d_Ref_shifts_252
  · refine lv_aload_n hx hb d_Ref_shifts_43 rfl (lv_at hl 2 rfl) ?_
    refine lv_aload_n hx hb d_Ref_shifts_44 rfl (lv_at hl 2 rfl) ?_
    refine va_get (D := D) (ci := 11) (v := .int ra) (C := "MappedProcessorModel") (T := T_Ref) (N := 14) hx hb hB iw_Ref hown hK hP 0 rfl rfl 9 (by decide) (hB _ mw_652) (fun _ h9 => h9) rfl d_Ref_shifts_45 ?_
    refine lv_iload_n hx hb d_Ref_shifts_48 rfl (lv_at hl 0 rfl) ?_
    refine lv_bipush (v := (31 : Int32)) hx hb d_Ref_shifts_49 (by decide) ?_
    refine k_join2 (c0 := (if p0 = (824 : Int32) then rb else ((rg (ix rb)) &&& (63 : Int32))) ≤ (31 : Int32)) (x1 := (shl (rg (ix rd)) (if p0 = (824 : Int32) then rb else ((rg (ix rb)) &&& (63 : Int32))))) (x2 := (0 : Int32)) (rest := [.int ra, .ref aT]) 61 ?_ (fun k65 k66 => ?_)
    rotate_left
    · refine lv_icmp_le (tgt := 58) hx hb d_Ref_shifts_51 (by decide) (fun (h64 : (if p0 = (824 : Int32) then rb else ((rg (ix rb)) &&& (63 : Int32))) ≤ (31 : Int32)) => ?_) (fun (h64 : ¬ (if p0 = (824 : Int32) then rb else ((rg (ix rb)) &&& (63 : Int32))) ≤ (31 : Int32)) => ?_)
      · refine lv_iload_n hx hb d_Ref_shifts_58 rfl (lv_at hl 1 rfl) ?_
        refine lv_iload_n hx hb d_Ref_shifts_59 rfl (lv_at hl 0 rfl) ?_
        refine lv_ishl hx hb d_Ref_shifts_60 ?_
        exact k65 h64
      · refine lv_iconst (v := (0 : Int32)) hx hb d_Ref_shifts_54 (by decide) ?_
        refine lv_goto (tgt := 61) hx hb d_Ref_shifts_55 (by decide) ?_
        exact k66 h64
    let t69 := (f_Ref_result ra (if (if p0 = (824 : Int32) then rb else ((rg (ix rb)) &&& (63 : Int32))) ≤ (31 : Int32) then (shl (rg (ix rd)) (if p0 = (824 : Int32) then rb else ((rg (ix rb)) &&& (63 : Int32)))) else (0 : Int32)) rg rs rc)
    refine k_cVv (As := [.int ra, .int (if (if p0 = (824 : Int32) then rb else ((rg (ix rb)) &&& (63 : Int32))) ≤ (31 : Int32) then (shl (rg (ix rd)) (if p0 = (824 : Int32) then rb else ((rg (ix rb)) &&& (63 : Int32)))) else (0 : Int32))]) (rest := []) (wr := []) (wj := [(aT, .inr (11, [.ref bG, .ref bS, .ref bM, .int rl, .int rk, .int rr, .int re, .int rc, .int rd, .int ra, .int rb, .int rn, .int rf, .int rw])), (bG, .inl (dG, 32, .inl t69.1)), (bS, .inl (dS, 48, .inl t69.2)), (bM, .inl (dM, 16384, .inl rm))]) ⟨hx, hb, hml, hown, hB⟩ (c_Ref_result l D aT bG bS bM dG dS dM rg rs rm rl rk rr re rc rd ra rb rn rf rw ra (if (if p0 = (824 : Int32) then rb else ((rg (ix rb)) &&& (63 : Int32))) ≤ (31 : Int32) then (shl (rg (ix rd)) (if p0 = (824 : Int32) then rb else ((rg (ix rb)) &&& (63 : Int32)))) else (0 : Int32)) hra) yl_Ref_result mw_842 hK hN hP hD hS hA [0, 1, 2] [0, 1, 2, 3] [] [0, 1, 2, 3] rfl rfl rfl rfl (by decide +kernel) 0 rfl rfl rfl rfl hl.1 rfl (Nat.le_of_ble_eq_true rfl) ⟨Nat.le_of_ble_eq_true rfl, Nat.le_of_ble_eq_true rfl⟩ d_Ref_shifts_61 ⟨Nat.le_of_ble_eq_true rfl, Nat.le_of_ble_eq_true rfl⟩ (fun H locs hP hD hS => ?_)
    refine lv_goto (tgt := 251) hx hb d_Ref_shifts_64 (by decide) ?_
    refine lv_iconst (v := (1 : Int32)) hx hb d_Ref_shifts_251 (by decide) ?_
    have ef : f_Ref_shifts p0 rg rs rc rd ra rb = ((1 : Int32), t69.1, t69.2) := by unfold f_Ref_shifts; try dsimp only; rw [if_pos h6]
    exact k_zret hx hb hr hlocks hK hP hD hS [0, 1, 2, 3] rfl (by rw [ef] <;> rfl) (by rw [ef] <;> rfl) nb1 d_Ref_shifts_252
/-! MappedProcessorModel.carryIn()I -/
theorem d_Ref_carryIn_0 : decode b_Ref_carryIn 0 = .ok (.aload_n 0, 1) := by decide +kernel
theorem d_Ref_carryIn_1 : decode b_Ref_carryIn 1 = .ok (.getfield 13, 3) := by decide +kernel
theorem d_Ref_carryIn_4 : decode b_Ref_carryIn 4 = .ok (.iconst 3, 1) := by decide +kernel
theorem d_Ref_carryIn_5 : decode b_Ref_carryIn 5 = .ok (.iaload, 1) := by decide +kernel
theorem d_Ref_carryIn_6 : decode b_Ref_carryIn 6 = .ok (.bipush 29, 2) := by decide +kernel
theorem d_Ref_carryIn_8 : decode b_Ref_carryIn 8 = .ok (.ishr, 1) := by decide +kernel
theorem d_Ref_carryIn_9 : decode b_Ref_carryIn 9 = .ok (.iconst 1, 1) := by decide +kernel
theorem d_Ref_carryIn_10 : decode b_Ref_carryIn 10 = .ok (.iand, 1) := by decide +kernel
theorem d_Ref_carryIn_11 : decode b_Ref_carryIn 11 = .ok (.ireturn, 1) := by decide +kernel
def f_Ref_carryIn (rs : Nat → Int32) : Int32 :=
  ((shr (rs 3) (29 : Int32)) &&& (1 : Int32))
set_option maxHeartbeats 4000000 in
set_option maxRecDepth 100000 in
theorem c_Ref_carryIn (l : Launch) (D : va_G) (aT bG bS bM : Nat) (dG dS dM : ClassId) (rg : Nat → Int32) (rs : Nat → Int32) (rm : Nat → Int32) (rl : Int32) (rk : Int32) (rr : Int32) (re : Int32) (rc : Int32) (rd : Int32) (ra : Int32) (rb : Int32) (rn : Int32) (rf : Int32) (rw : Int32) : kMi l y_Ref_carryIn b_Ref_carryIn 1 (some .int) 0 0 D kCl [(dG, .int), (dS, .int), (dM, .int)] [.ref aT] [(aT, .inr (11, [.ref bG, .ref bS, .ref bM, .int rl, .int rk, .int rr, .int re, .int rc, .int rd, .int ra, .int rb, .int rn, .int rf, .int rw])), (bG, .inl (dG, 32, .inl rg)), (bS, .inl (dS, 48, .inl rs)), (bM, .inl (dM, 16384, .inl rm))] (f_Ref_carryIn rs) [(aT, .inr (11, [.ref bG, .ref bS, .ref bM, .int rl, .int rk, .int rr, .int re, .int rc, .int rd, .int ra, .int rb, .int rn, .int rf, .int rw])), (bG, .inl (dG, 32, .inl rg)), (bS, .inl (dS, 48, .inl rs)), (bM, .inl (dM, 16384, .inl rm))] := by
  refine k_entry (Qc := fun A => kQi D kCl [(dG, .int), (dS, .int), (dM, .int)] (f_Ref_carryIn rs) [(aT, .inr (11, [.ref bG, .ref bS, .ref bM, .int rl, .int rk, .int rr, .int re, .int rc, .int rd, .int ra, .int rb, .int rn, .int rf, .int rw])), (bG, .inl (dG, 32, .inl rg)), (bS, .inl (dS, 48, .inl rs)), (bM, .inl (dM, 16384, .inl rm))] A) (lv := [(0, .ref aT)]) (by decide) (Nat.le_of_ble_eq_true rfl) rfl ?_
  intro p e s m below meth c A ls hx hb hr hml hB hown hlocks hin hA hK hN hP hD hS hl
  have hown : s.vm.findClass "MappedProcessorModel" = some m.cls := hown
  refine lv_aload_n hx hb d_Ref_carryIn_0 rfl (lv_at hl 0 rfl) ?_
  refine va_get (D := D) (ci := 11) (v := .ref bS) (C := "MappedProcessorModel") (T := T_Ref) (N := 14) hx hb hB iw_Ref hown hK hP 0 rfl rfl 1 (by decide) (hB _ mw_644) (fun _ h9 => h9) rfl d_Ref_carryIn_1 ?_
  refine lv_iconst (v := (3 : Int32)) hx hb d_Ref_carryIn_4 (by decide) ?_
  refine k_iald (j := 3) hx hb hK hP 2 1 rfl rfl (by decide) (by unfold vp_in; decide) d_Ref_carryIn_5 ?_
  refine lv_bipush (v := (29 : Int32)) hx hb d_Ref_carryIn_6 (by decide) ?_
  refine lv_ishr hx hb d_Ref_carryIn_8 ?_
  refine lv_iconst (v := (1 : Int32)) hx hb d_Ref_carryIn_9 (by decide) ?_
  refine lv_iand hx hb d_Ref_carryIn_10 ?_
  have ef : f_Ref_carryIn rs = ((shr (rs 3) (29 : Int32)) &&& (1 : Int32)) := rfl
  exact k_iret hx hb hr hlocks hK hP hD hS [0, 1, 2, 3] rfl rfl (by rw [ef] <;> rfl) d_Ref_carryIn_11
/-! MappedProcessorModel.arithmetic(I)Z -/
theorem d_Ref_arithmetic_0 : decode b_Ref_arithmetic 0 = .ok (.aload_n 0, 1) := by decide +kernel
theorem d_Ref_arithmetic_1 : decode b_Ref_arithmetic 1 = .ok (.getfield 7, 3) := by decide +kernel
theorem d_Ref_arithmetic_4 : decode b_Ref_arithmetic 4 = .ok (.aload_n 0, 1) := by decide +kernel
theorem d_Ref_arithmetic_5 : decode b_Ref_arithmetic 5 = .ok (.getfield 85, 3) := by decide +kernel
theorem d_Ref_arithmetic_8 : decode b_Ref_arithmetic 8 = .ok (.iaload, 1) := by decide +kernel
theorem d_Ref_arithmetic_9 : decode b_Ref_arithmetic 9 = .ok (.istore_n 2, 1) := by decide +kernel
theorem d_Ref_arithmetic_10 : decode b_Ref_arithmetic 10 = .ok (.aload_n 0, 1) := by decide +kernel
theorem d_Ref_arithmetic_11 : decode b_Ref_arithmetic 11 = .ok (.getfield 7, 3) := by decide +kernel
theorem d_Ref_arithmetic_14 : decode b_Ref_arithmetic 14 = .ok (.aload_n 0, 1) := by decide +kernel
theorem d_Ref_arithmetic_15 : decode b_Ref_arithmetic 15 = .ok (.getfield 88, 3) := by decide +kernel
theorem d_Ref_arithmetic_18 : decode b_Ref_arithmetic 18 = .ok (.iaload, 1) := by decide +kernel
theorem d_Ref_arithmetic_19 : decode b_Ref_arithmetic 19 = .ok (.istore_n 3, 1) := by decide +kernel
theorem d_Ref_arithmetic_20 : decode b_Ref_arithmetic 20 = .ok (.iload_n 1, 1) := by decide +kernel
theorem d_Ref_arithmetic_21 : decode b_Ref_arithmetic 21 = .ok (.sipush 266, 3) := by decide +kernel
theorem d_Ref_arithmetic_24 : decode b_Ref_arithmetic 24 = .ok (.if_icmp .ne 17, 3) := by decide +kernel
theorem d_Ref_arithmetic_27 : decode b_Ref_arithmetic 27 = .ok (.aload_n 0, 1) := by decide +kernel
theorem d_Ref_arithmetic_28 : decode b_Ref_arithmetic 28 = .ok (.aload_n 0, 1) := by decide +kernel
theorem d_Ref_arithmetic_29 : decode b_Ref_arithmetic 29 = .ok (.getfield 82, 3) := by decide +kernel
theorem d_Ref_arithmetic_32 : decode b_Ref_arithmetic 32 = .ok (.iload_n 2, 1) := by decide +kernel
theorem d_Ref_arithmetic_33 : decode b_Ref_arithmetic 33 = .ok (.iload_n 3, 1) := by decide +kernel
theorem d_Ref_arithmetic_34 : decode b_Ref_arithmetic 34 = .ok (.iadd, 1) := by decide +kernel
theorem d_Ref_arithmetic_35 : decode b_Ref_arithmetic 35 = .ok (.invokevirtual 175, 3) := by decide +kernel
theorem d_Ref_arithmetic_38 : decode b_Ref_arithmetic 38 = .ok (.goto 152, 3) := by decide +kernel
theorem d_Ref_arithmetic_41 : decode b_Ref_arithmetic 41 = .ok (.iload_n 1, 1) := by decide +kernel
theorem d_Ref_arithmetic_42 : decode b_Ref_arithmetic 42 = .ok (.bipush 40, 2) := by decide +kernel
theorem d_Ref_arithmetic_44 : decode b_Ref_arithmetic 44 = .ok (.if_icmp .ne 17, 3) := by decide +kernel
theorem d_Ref_arithmetic_47 : decode b_Ref_arithmetic 47 = .ok (.aload_n 0, 1) := by decide +kernel
theorem d_Ref_arithmetic_48 : decode b_Ref_arithmetic 48 = .ok (.aload_n 0, 1) := by decide +kernel
theorem d_Ref_arithmetic_49 : decode b_Ref_arithmetic 49 = .ok (.getfield 82, 3) := by decide +kernel
theorem d_Ref_arithmetic_52 : decode b_Ref_arithmetic 52 = .ok (.iload_n 3, 1) := by decide +kernel
theorem d_Ref_arithmetic_53 : decode b_Ref_arithmetic 53 = .ok (.iload_n 2, 1) := by decide +kernel
theorem d_Ref_arithmetic_54 : decode b_Ref_arithmetic 54 = .ok (.isub, 1) := by decide +kernel
theorem d_Ref_arithmetic_55 : decode b_Ref_arithmetic 55 = .ok (.invokevirtual 175, 3) := by decide +kernel
theorem d_Ref_arithmetic_58 : decode b_Ref_arithmetic 58 = .ok (.goto 132, 3) := by decide +kernel
theorem d_Ref_arithmetic_61 : decode b_Ref_arithmetic 61 = .ok (.iload_n 1, 1) := by decide +kernel
theorem d_Ref_arithmetic_62 : decode b_Ref_arithmetic 62 = .ok (.bipush 10, 2) := by decide +kernel
theorem d_Ref_arithmetic_64 : decode b_Ref_arithmetic 64 = .ok (.if_icmp .ne 21, 3) := by decide +kernel
theorem d_Ref_arithmetic_67 : decode b_Ref_arithmetic 67 = .ok (.aload_n 0, 1) := by decide +kernel
theorem d_Ref_arithmetic_68 : decode b_Ref_arithmetic 68 = .ok (.aload_n 0, 1) := by decide +kernel
theorem d_Ref_arithmetic_69 : decode b_Ref_arithmetic 69 = .ok (.getfield 82, 3) := by decide +kernel
theorem d_Ref_arithmetic_72 : decode b_Ref_arithmetic 72 = .ok (.aload_n 0, 1) := by decide +kernel
theorem d_Ref_arithmetic_73 : decode b_Ref_arithmetic 73 = .ok (.iload_n 2, 1) := by decide +kernel
theorem d_Ref_arithmetic_74 : decode b_Ref_arithmetic 74 = .ok (.iload_n 3, 1) := by decide +kernel
theorem d_Ref_arithmetic_75 : decode b_Ref_arithmetic 75 = .ok (.iconst 0, 1) := by decide +kernel
theorem d_Ref_arithmetic_76 : decode b_Ref_arithmetic 76 = .ok (.invokevirtual 149, 3) := by decide +kernel
theorem d_Ref_arithmetic_79 : decode b_Ref_arithmetic 79 = .ok (.invokevirtual 175, 3) := by decide +kernel
theorem d_Ref_arithmetic_82 : decode b_Ref_arithmetic 82 = .ok (.goto 108, 3) := by decide +kernel
theorem d_Ref_arithmetic_85 : decode b_Ref_arithmetic 85 = .ok (.iload_n 1, 1) := by decide +kernel
theorem d_Ref_arithmetic_86 : decode b_Ref_arithmetic 86 = .ok (.bipush 8, 2) := by decide +kernel
theorem d_Ref_arithmetic_88 : decode b_Ref_arithmetic 88 = .ok (.if_icmp .ne 23, 3) := by decide +kernel
theorem d_Ref_arithmetic_91 : decode b_Ref_arithmetic 91 = .ok (.aload_n 0, 1) := by decide +kernel
theorem d_Ref_arithmetic_92 : decode b_Ref_arithmetic 92 = .ok (.aload_n 0, 1) := by decide +kernel
theorem d_Ref_arithmetic_93 : decode b_Ref_arithmetic 93 = .ok (.getfield 82, 3) := by decide +kernel
theorem d_Ref_arithmetic_96 : decode b_Ref_arithmetic 96 = .ok (.aload_n 0, 1) := by decide +kernel
theorem d_Ref_arithmetic_97 : decode b_Ref_arithmetic 97 = .ok (.iload_n 3, 1) := by decide +kernel
theorem d_Ref_arithmetic_98 : decode b_Ref_arithmetic 98 = .ok (.iload_n 2, 1) := by decide +kernel
theorem d_Ref_arithmetic_99 : decode b_Ref_arithmetic 99 = .ok (.iconst (-1), 1) := by decide +kernel
theorem d_Ref_arithmetic_100 : decode b_Ref_arithmetic 100 = .ok (.ixor, 1) := by decide +kernel
theorem d_Ref_arithmetic_101 : decode b_Ref_arithmetic 101 = .ok (.iconst 1, 1) := by decide +kernel
theorem d_Ref_arithmetic_102 : decode b_Ref_arithmetic 102 = .ok (.invokevirtual 149, 3) := by decide +kernel
theorem d_Ref_arithmetic_105 : decode b_Ref_arithmetic 105 = .ok (.invokevirtual 175, 3) := by decide +kernel
theorem d_Ref_arithmetic_108 : decode b_Ref_arithmetic 108 = .ok (.goto 82, 3) := by decide +kernel
theorem d_Ref_arithmetic_111 : decode b_Ref_arithmetic 111 = .ok (.iload_n 1, 1) := by decide +kernel
theorem d_Ref_arithmetic_112 : decode b_Ref_arithmetic 112 = .ok (.sipush 138, 3) := by decide +kernel
theorem d_Ref_arithmetic_115 : decode b_Ref_arithmetic 115 = .ok (.if_icmp .ne 24, 3) := by decide +kernel
theorem d_Ref_arithmetic_118 : decode b_Ref_arithmetic 118 = .ok (.aload_n 0, 1) := by decide +kernel
theorem d_Ref_arithmetic_119 : decode b_Ref_arithmetic 119 = .ok (.aload_n 0, 1) := by decide +kernel
theorem d_Ref_arithmetic_120 : decode b_Ref_arithmetic 120 = .ok (.getfield 82, 3) := by decide +kernel
theorem d_Ref_arithmetic_123 : decode b_Ref_arithmetic 123 = .ok (.aload_n 0, 1) := by decide +kernel
theorem d_Ref_arithmetic_124 : decode b_Ref_arithmetic 124 = .ok (.iload_n 2, 1) := by decide +kernel
theorem d_Ref_arithmetic_125 : decode b_Ref_arithmetic 125 = .ok (.iload_n 3, 1) := by decide +kernel
theorem d_Ref_arithmetic_126 : decode b_Ref_arithmetic 126 = .ok (.aload_n 0, 1) := by decide +kernel
theorem d_Ref_arithmetic_127 : decode b_Ref_arithmetic 127 = .ok (.invokevirtual 204, 3) := by decide +kernel
theorem d_Ref_arithmetic_130 : decode b_Ref_arithmetic 130 = .ok (.invokevirtual 149, 3) := by decide +kernel
theorem d_Ref_arithmetic_133 : decode b_Ref_arithmetic 133 = .ok (.invokevirtual 175, 3) := by decide +kernel
theorem d_Ref_arithmetic_136 : decode b_Ref_arithmetic 136 = .ok (.goto 54, 3) := by decide +kernel
theorem d_Ref_arithmetic_139 : decode b_Ref_arithmetic 139 = .ok (.iload_n 1, 1) := by decide +kernel
theorem d_Ref_arithmetic_140 : decode b_Ref_arithmetic 140 = .ok (.sipush 136, 3) := by decide +kernel
theorem d_Ref_arithmetic_143 : decode b_Ref_arithmetic 143 = .ok (.if_icmp .ne 26, 3) := by decide +kernel
theorem d_Ref_arithmetic_146 : decode b_Ref_arithmetic 146 = .ok (.aload_n 0, 1) := by decide +kernel
theorem d_Ref_arithmetic_147 : decode b_Ref_arithmetic 147 = .ok (.aload_n 0, 1) := by decide +kernel
theorem d_Ref_arithmetic_148 : decode b_Ref_arithmetic 148 = .ok (.getfield 82, 3) := by decide +kernel
theorem d_Ref_arithmetic_151 : decode b_Ref_arithmetic 151 = .ok (.aload_n 0, 1) := by decide +kernel
theorem d_Ref_arithmetic_152 : decode b_Ref_arithmetic 152 = .ok (.iload_n 2, 1) := by decide +kernel
theorem d_Ref_arithmetic_153 : decode b_Ref_arithmetic 153 = .ok (.iconst (-1), 1) := by decide +kernel
theorem d_Ref_arithmetic_154 : decode b_Ref_arithmetic 154 = .ok (.ixor, 1) := by decide +kernel
theorem d_Ref_arithmetic_155 : decode b_Ref_arithmetic 155 = .ok (.iload_n 3, 1) := by decide +kernel
theorem d_Ref_arithmetic_156 : decode b_Ref_arithmetic 156 = .ok (.aload_n 0, 1) := by decide +kernel
theorem d_Ref_arithmetic_157 : decode b_Ref_arithmetic 157 = .ok (.invokevirtual 204, 3) := by decide +kernel
theorem d_Ref_arithmetic_160 : decode b_Ref_arithmetic 160 = .ok (.invokevirtual 149, 3) := by decide +kernel
theorem d_Ref_arithmetic_163 : decode b_Ref_arithmetic 163 = .ok (.invokevirtual 175, 3) := by decide +kernel
theorem d_Ref_arithmetic_166 : decode b_Ref_arithmetic 166 = .ok (.goto 24, 3) := by decide +kernel
theorem d_Ref_arithmetic_169 : decode b_Ref_arithmetic 169 = .ok (.iload_n 1, 1) := by decide +kernel
theorem d_Ref_arithmetic_170 : decode b_Ref_arithmetic 170 = .ok (.bipush 104, 2) := by decide +kernel
theorem d_Ref_arithmetic_172 : decode b_Ref_arithmetic 172 = .ok (.if_icmp .ne 16, 3) := by decide +kernel
theorem d_Ref_arithmetic_175 : decode b_Ref_arithmetic 175 = .ok (.aload_n 0, 1) := by decide +kernel
theorem d_Ref_arithmetic_176 : decode b_Ref_arithmetic 176 = .ok (.aload_n 0, 1) := by decide +kernel
theorem d_Ref_arithmetic_177 : decode b_Ref_arithmetic 177 = .ok (.getfield 82, 3) := by decide +kernel
theorem d_Ref_arithmetic_180 : decode b_Ref_arithmetic 180 = .ok (.iload_n 2, 1) := by decide +kernel
theorem d_Ref_arithmetic_181 : decode b_Ref_arithmetic 181 = .ok (.ineg, 1) := by decide +kernel
theorem d_Ref_arithmetic_182 : decode b_Ref_arithmetic 182 = .ok (.invokevirtual 175, 3) := by decide +kernel
theorem d_Ref_arithmetic_185 : decode b_Ref_arithmetic 185 = .ok (.goto 5, 3) := by decide +kernel
theorem d_Ref_arithmetic_188 : decode b_Ref_arithmetic 188 = .ok (.iconst 0, 1) := by decide +kernel
theorem d_Ref_arithmetic_189 : decode b_Ref_arithmetic 189 = .ok (.ireturn, 1) := by decide +kernel
theorem d_Ref_arithmetic_190 : decode b_Ref_arithmetic 190 = .ok (.iconst 1, 1) := by decide +kernel
theorem d_Ref_arithmetic_191 : decode b_Ref_arithmetic 191 = .ok (.ireturn, 1) := by decide +kernel
def f_Ref_arithmetic (p0 : Int32) (rg : Nat → Int32) (rs : Nat → Int32) (rc : Int32) (rd : Int32) (ra : Int32) (rb : Int32) : Int32 × (Nat → Int32) × (Nat → Int32) :=
  if p0 = (266 : Int32) then
    let t18 := (f_Ref_result rd ((rg (ix ra)) + (rg (ix rb))) rg rs rc)
    ((1 : Int32), t18.1, t18.2)
  else
    if p0 = (40 : Int32) then
      let t17 := (f_Ref_result rd ((rg (ix rb)) - (rg (ix ra))) rg rs rc)
      ((1 : Int32), t17.1, t17.2)
    else
      if p0 = (10 : Int32) then
        let t15 := (f_Ref_sum (rg (ix ra)) (rg (ix rb)) (0 : Int32) rs)
        let t16 := (f_Ref_result rd t15.1 rg t15.2 rc)
        ((1 : Int32), t16.1, t16.2)
      else
        if p0 = (8 : Int32) then
          let t13 := (f_Ref_sum (rg (ix rb)) ((rg (ix ra)) ^^^ (-1 : Int32)) (1 : Int32) rs)
          let t14 := (f_Ref_result rd t13.1 rg t13.2 rc)
          ((1 : Int32), t14.1, t14.2)
        else
          if p0 = (138 : Int32) then
            let t11 := (f_Ref_sum (rg (ix ra)) (rg (ix rb)) (f_Ref_carryIn rs) rs)
            let t12 := (f_Ref_result rd t11.1 rg t11.2 rc)
            ((1 : Int32), t12.1, t12.2)
          else
            if p0 = (136 : Int32) then
              let t9 := (f_Ref_sum ((rg (ix ra)) ^^^ (-1 : Int32)) (rg (ix rb)) (f_Ref_carryIn rs) rs)
              let t10 := (f_Ref_result rd t9.1 rg t9.2 rc)
              ((1 : Int32), t10.1, t10.2)
            else
              if p0 = (104 : Int32) then
                let t8 := (f_Ref_result rd (-(rg (ix ra))) rg rs rc)
                ((1 : Int32), t8.1, t8.2)
              else
                ((0 : Int32), rg, rs)
set_option maxHeartbeats 4000000 in
set_option maxRecDepth 100000 in
theorem ib_Ref_arithmetic (p0 : Int32) (rg : Nat → Int32) (rs : Nat → Int32) (rc : Int32) (rd : Int32) (ra : Int32) (rb : Int32) : isB (f_Ref_arithmetic p0 rg rs rc rd ra rb).1 := by
  unfold f_Ref_arithmetic
  try dsimp only
  repeat' (first | refine ib_ite ?_ ?_ | refine ib_ite0 ?_ ?_ | with_reducible exact ib0 | with_reducible exact ib1 | (dsimp only; first | exact ib0 | exact ib1))
theorem nb_Ref_arithmetic (p0 : Int32) (rg : Nat → Int32) (rs : Nat → Int32) (rc : Int32) (rd : Int32) (ra : Int32) (rb : Int32) : narrow .boolean (.int (f_Ref_arithmetic p0 rg rs rc rd ra rb).1) = .int (f_Ref_arithmetic p0 rg rs rc rd ra rb).1 := nb_of (ib_Ref_arithmetic p0 rg rs rc rd ra rb)
set_option maxHeartbeats 4000000 in
set_option maxRecDepth 100000 in
theorem c_Ref_arithmetic (l : Launch) (D : va_G) (aT bG bS bM : Nat) (dG dS dM : ClassId) (rg : Nat → Int32) (rs : Nat → Int32) (rm : Nat → Int32) (rl : Int32) (rk : Int32) (rr : Int32) (re : Int32) (rc : Int32) (rd : Int32) (ra : Int32) (rb : Int32) (rn : Int32) (rf : Int32) (rw : Int32) (p0 : Int32) (hra : vp_in ra 32) (hrd : vp_in rd 32) (hrb : vp_in rb 32) : kMi l y_Ref_arithmetic b_Ref_arithmetic 4 (some .boolean) 4 92 D kCl [(dG, .int), (dS, .int), (dM, .int)] [.ref aT, .int p0] [(aT, .inr (11, [.ref bG, .ref bS, .ref bM, .int rl, .int rk, .int rr, .int re, .int rc, .int rd, .int ra, .int rb, .int rn, .int rf, .int rw])), (bG, .inl (dG, 32, .inl rg)), (bS, .inl (dS, 48, .inl rs)), (bM, .inl (dM, 16384, .inl rm))] (f_Ref_arithmetic p0 rg rs rc rd ra rb).1 [(aT, .inr (11, [.ref bG, .ref bS, .ref bM, .int rl, .int rk, .int rr, .int re, .int rc, .int rd, .int ra, .int rb, .int rn, .int rf, .int rw])), (bG, .inl (dG, 32, .inl (f_Ref_arithmetic p0 rg rs rc rd ra rb).2.1)), (bS, .inl (dS, 48, .inl (f_Ref_arithmetic p0 rg rs rc rd ra rb).2.2)), (bM, .inl (dM, 16384, .inl rm))] := by
  refine k_entry (Qc := fun A => kQi D kCl [(dG, .int), (dS, .int), (dM, .int)] (f_Ref_arithmetic p0 rg rs rc rd ra rb).1 [(aT, .inr (11, [.ref bG, .ref bS, .ref bM, .int rl, .int rk, .int rr, .int re, .int rc, .int rd, .int ra, .int rb, .int rn, .int rf, .int rw])), (bG, .inl (dG, 32, .inl (f_Ref_arithmetic p0 rg rs rc rd ra rb).2.1)), (bS, .inl (dS, 48, .inl (f_Ref_arithmetic p0 rg rs rc rd ra rb).2.2)), (bM, .inl (dM, 16384, .inl rm))] A) (lv := [(0, .ref aT), (1, .int p0)]) (by decide) (Nat.le_of_ble_eq_true rfl) rfl ?_
  intro p e s m below meth c A ls hx hb hr hml hB hown hlocks hin hA hK hN hP hD hS hl
  have hown : s.vm.findClass "MappedProcessorModel" = some m.cls := hown
  refine lv_aload_n hx hb d_Ref_arithmetic_0 rfl (lv_at hl 0 rfl) ?_
  refine va_get (D := D) (ci := 11) (v := .ref bG) (C := "MappedProcessorModel") (T := T_Ref) (N := 14) hx hb hB iw_Ref hown hK hP 0 rfl rfl 0 (by decide) (hB _ mw_643) (fun _ h9 => h9) rfl d_Ref_arithmetic_1 ?_
  refine lv_aload_n hx hb d_Ref_arithmetic_4 rfl (lv_at hl 0 rfl) ?_
  refine va_get (D := D) (ci := 11) (v := .int ra) (C := "MappedProcessorModel") (T := T_Ref) (N := 14) hx hb hB iw_Ref hown hK hP 0 rfl rfl 9 (by decide) (hB _ mw_652) (fun _ h9 => h9) rfl d_Ref_arithmetic_5 ?_
  refine k_iald (j := (ix ra)) hx hb hK hP 1 0 rfl rfl rfl hra d_Ref_arithmetic_8 ?_
  refine lv_istore_n (lv' := [(2, .int (rg (ix ra))), (0, .ref aT), (1, .int p0)]) hx hb d_Ref_arithmetic_9 rfl hl (by decide) rfl (fun ls hl => ?_)
  refine lv_aload_n hx hb d_Ref_arithmetic_10 rfl (lv_at hl 1 rfl) ?_
  refine va_get (D := D) (ci := 11) (v := .ref bG) (C := "MappedProcessorModel") (T := T_Ref) (N := 14) hx hb hB iw_Ref hown hK hP 0 rfl rfl 0 (by decide) (hB _ mw_643) (fun _ h9 => h9) rfl d_Ref_arithmetic_11 ?_
  refine lv_aload_n hx hb d_Ref_arithmetic_14 rfl (lv_at hl 1 rfl) ?_
  refine va_get (D := D) (ci := 11) (v := .int rb) (C := "MappedProcessorModel") (T := T_Ref) (N := 14) hx hb hB iw_Ref hown hK hP 0 rfl rfl 10 (by decide) (hB _ mw_653) (fun _ h9 => h9) rfl d_Ref_arithmetic_15 ?_
  refine k_iald (j := (ix rb)) hx hb hK hP 1 0 rfl rfl rfl hrb d_Ref_arithmetic_18 ?_
  refine lv_istore_n (lv' := [(3, .int (rg (ix rb))), (2, .int (rg (ix ra))), (0, .ref aT), (1, .int p0)]) hx hb d_Ref_arithmetic_19 rfl hl (by decide) rfl (fun ls hl => ?_)
  refine lv_iload_n hx hb d_Ref_arithmetic_20 rfl (lv_at hl 3 rfl) ?_
  refine lv_sipush (v := (266 : Int32)) hx hb d_Ref_arithmetic_21 (by decide) ?_
  refine lv_icmp_ne (tgt := 41) hx hb d_Ref_arithmetic_24 (by decide) (fun (h1 : ¬ p0 = (266 : Int32)) => ?_) (fun (h1 : p0 = (266 : Int32)) => ?_)
  · refine lv_iload_n hx hb d_Ref_arithmetic_41 rfl (lv_at hl 3 rfl) ?_
    refine lv_bipush (v := (40 : Int32)) hx hb d_Ref_arithmetic_42 (by decide) ?_
    refine lv_icmp_ne (tgt := 61) hx hb d_Ref_arithmetic_44 (by decide) (fun (h2 : ¬ p0 = (40 : Int32)) => ?_) (fun (h2 : p0 = (40 : Int32)) => ?_)
    · refine lv_iload_n hx hb d_Ref_arithmetic_61 rfl (lv_at hl 3 rfl) ?_
      refine lv_bipush (v := (10 : Int32)) hx hb d_Ref_arithmetic_62 (by decide) ?_
      refine lv_icmp_ne (tgt := 85) hx hb d_Ref_arithmetic_64 (by decide) (fun (h3 : ¬ p0 = (10 : Int32)) => ?_) (fun (h3 : p0 = (10 : Int32)) => ?_)
      · refine lv_iload_n hx hb d_Ref_arithmetic_85 rfl (lv_at hl 3 rfl) ?_
        refine lv_bipush (v := (8 : Int32)) hx hb d_Ref_arithmetic_86 (by decide) ?_
        refine lv_icmp_ne (tgt := 111) hx hb d_Ref_arithmetic_88 (by decide) (fun (h4 : ¬ p0 = (8 : Int32)) => ?_) (fun (h4 : p0 = (8 : Int32)) => ?_)
        · refine lv_iload_n hx hb d_Ref_arithmetic_111 rfl (lv_at hl 3 rfl) ?_
          refine lv_sipush (v := (138 : Int32)) hx hb d_Ref_arithmetic_112 (by decide) ?_
          refine lv_icmp_ne (tgt := 139) hx hb d_Ref_arithmetic_115 (by decide) (fun (h5 : ¬ p0 = (138 : Int32)) => ?_) (fun (h5 : p0 = (138 : Int32)) => ?_)
          · refine lv_iload_n hx hb d_Ref_arithmetic_139 rfl (lv_at hl 3 rfl) ?_
            refine lv_sipush (v := (136 : Int32)) hx hb d_Ref_arithmetic_140 (by decide) ?_
            refine lv_icmp_ne (tgt := 169) hx hb d_Ref_arithmetic_143 (by decide) (fun (h6 : ¬ p0 = (136 : Int32)) => ?_) (fun (h6 : p0 = (136 : Int32)) => ?_)
            · refine lv_iload_n hx hb d_Ref_arithmetic_169 rfl (lv_at hl 3 rfl) ?_
              refine lv_bipush (v := (104 : Int32)) hx hb d_Ref_arithmetic_170 (by decide) ?_
              refine lv_icmp_ne (tgt := 188) hx hb d_Ref_arithmetic_172 (by decide) (fun (h7 : ¬ p0 = (104 : Int32)) => ?_) (fun (h7 : p0 = (104 : Int32)) => ?_)
              · refine lv_iconst (v := (0 : Int32)) hx hb d_Ref_arithmetic_188 (by decide) ?_
                have ef : f_Ref_arithmetic p0 rg rs rc rd ra rb = ((0 : Int32), rg, rs) := by unfold f_Ref_arithmetic; try dsimp only; rw [if_neg h1, if_neg h2, if_neg h3, if_neg h4, if_neg h5, if_neg h6, if_neg h7]
                exact k_zret hx hb hr hlocks hK hP hD hS [0, 1, 2, 3] rfl (by rw [ef] <;> rfl) (by rw [ef] <;> rfl) nb0 d_Ref_arithmetic_189
              · refine lv_aload_n hx hb d_Ref_arithmetic_175 rfl (lv_at hl 2 rfl) ?_
                refine lv_aload_n hx hb d_Ref_arithmetic_176 rfl (lv_at hl 2 rfl) ?_
                refine va_get (D := D) (ci := 11) (v := .int rd) (C := "MappedProcessorModel") (T := T_Ref) (N := 14) hx hb hB iw_Ref hown hK hP 0 rfl rfl 8 (by decide) (hB _ mw_651) (fun _ h9 => h9) rfl d_Ref_arithmetic_177 ?_
                refine lv_iload_n hx hb d_Ref_arithmetic_180 rfl (lv_at hl 1 rfl) ?_
                refine lv_ineg hx hb d_Ref_arithmetic_181 ?_
                let t8 := (f_Ref_result rd (-(rg (ix ra))) rg rs rc)
                refine k_cVv (As := [.int rd, .int (-(rg (ix ra)))]) (rest := []) (wr := []) (wj := [(aT, .inr (11, [.ref bG, .ref bS, .ref bM, .int rl, .int rk, .int rr, .int re, .int rc, .int rd, .int ra, .int rb, .int rn, .int rf, .int rw])), (bG, .inl (dG, 32, .inl t8.1)), (bS, .inl (dS, 48, .inl t8.2)), (bM, .inl (dM, 16384, .inl rm))]) ⟨hx, hb, hml, hown, hB⟩ (c_Ref_result l D aT bG bS bM dG dS dM rg rs rm rl rk rr re rc rd ra rb rn rf rw rd (-(rg (ix ra))) hrd) yl_Ref_result mw_842 hK hN hP hD hS hA [0, 1, 2] [0, 1, 2, 3] [] [0, 1, 2, 3] rfl rfl rfl rfl (by decide +kernel) 0 rfl rfl rfl rfl hl.1 rfl (Nat.le_of_ble_eq_true rfl) ⟨Nat.le_of_ble_eq_true rfl, Nat.le_of_ble_eq_true rfl⟩ d_Ref_arithmetic_182 ⟨Nat.le_of_ble_eq_true rfl, Nat.le_of_ble_eq_true rfl⟩ (fun H locs hP hD hS => ?_)
                refine lv_goto (tgt := 190) hx hb d_Ref_arithmetic_185 (by decide) ?_
                refine lv_iconst (v := (1 : Int32)) hx hb d_Ref_arithmetic_190 (by decide) ?_
                have ef : f_Ref_arithmetic p0 rg rs rc rd ra rb = ((1 : Int32), t8.1, t8.2) := by unfold f_Ref_arithmetic; try dsimp only; rw [if_neg h1, if_neg h2, if_neg h3, if_neg h4, if_neg h5, if_neg h6, if_pos h7]
                exact k_zret hx hb hr hlocks hK hP hD hS [0, 1, 2, 3] rfl (by rw [ef] <;> rfl) (by rw [ef] <;> rfl) nb1 d_Ref_arithmetic_191
            · refine lv_aload_n hx hb d_Ref_arithmetic_146 rfl (lv_at hl 2 rfl) ?_
              refine lv_aload_n hx hb d_Ref_arithmetic_147 rfl (lv_at hl 2 rfl) ?_
              refine va_get (D := D) (ci := 11) (v := .int rd) (C := "MappedProcessorModel") (T := T_Ref) (N := 14) hx hb hB iw_Ref hown hK hP 0 rfl rfl 8 (by decide) (hB _ mw_651) (fun _ h9 => h9) rfl d_Ref_arithmetic_148 ?_
              refine lv_aload_n hx hb d_Ref_arithmetic_151 rfl (lv_at hl 2 rfl) ?_
              refine lv_iload_n hx hb d_Ref_arithmetic_152 rfl (lv_at hl 1 rfl) ?_
              refine lv_iconst (v := (-1 : Int32)) hx hb d_Ref_arithmetic_153 (by decide) ?_
              refine lv_ixor hx hb d_Ref_arithmetic_154 ?_
              refine lv_iload_n hx hb d_Ref_arithmetic_155 rfl (lv_at hl 0 rfl) ?_
              refine lv_aload_n hx hb d_Ref_arithmetic_156 rfl (lv_at hl 2 rfl) ?_
              refine k_cVi (As := []) (rest := [.int (rg (ix rb)), .int ((rg (ix ra)) ^^^ (-1 : Int32)), .ref aT, .int rd, .ref aT]) (wr := []) (wj := [(aT, .inr (11, [.ref bG, .ref bS, .ref bM, .int rl, .int rk, .int rr, .int re, .int rc, .int rd, .int ra, .int rb, .int rn, .int rf, .int rw])), (bG, .inl (dG, 32, .inl rg)), (bS, .inl (dS, 48, .inl rs)), (bM, .inl (dM, 16384, .inl rm))]) ⟨hx, hb, hml, hown, hB⟩ (c_Ref_carryIn l D aT bG bS bM dG dS dM rg rs rm rl rk rr re rc rd ra rb rn rf rw) yl_Ref_carryIn mw_885 hK hN hP hD hS hA [0, 1, 2] [0, 1, 2, 3] [] [0, 1, 2, 3] rfl rfl rfl rfl (by decide +kernel) 0 rfl rfl rfl rfl hl.1 rfl (Nat.le_of_ble_eq_true rfl) ⟨Nat.le_of_ble_eq_true rfl, Nat.le_of_ble_eq_true rfl⟩ d_Ref_arithmetic_157 ⟨Nat.le_of_ble_eq_true rfl, Nat.le_of_ble_eq_true rfl⟩ (fun H locs hP hD hS => ?_)
              let t9 := (f_Ref_sum ((rg (ix ra)) ^^^ (-1 : Int32)) (rg (ix rb)) (f_Ref_carryIn rs) rs)
              refine k_cVi (As := [.int ((rg (ix ra)) ^^^ (-1 : Int32)), .int (rg (ix rb)), .int (f_Ref_carryIn rs)]) (rest := [.int rd, .ref aT]) (wr := []) (wj := [(aT, .inr (11, [.ref bG, .ref bS, .ref bM, .int rl, .int rk, .int rr, .int re, .int rc, .int rd, .int ra, .int rb, .int rn, .int rf, .int rw])), (bG, .inl (dG, 32, .inl rg)), (bS, .inl (dS, 48, .inl t9.2)), (bM, .inl (dM, 16384, .inl rm))]) ⟨hx, hb, hml, hown, hB⟩ (c_Ref_sum l D aT bG bS bM dG dS dM rg rs rm rl rk rr re rc rd ra rb rn rf rw ((rg (ix ra)) ^^^ (-1 : Int32)) (rg (ix rb)) (f_Ref_carryIn rs)) yl_Ref_sum mw_778 hK hN hP hD hS hA [0, 1, 2] [0, 1, 2, 3] [] [0, 1, 2, 3] rfl rfl rfl rfl (by decide +kernel) 0 rfl rfl rfl rfl hl.1 rfl (Nat.le_of_ble_eq_true rfl) ⟨Nat.le_of_ble_eq_true rfl, Nat.le_of_ble_eq_true rfl⟩ d_Ref_arithmetic_160 ⟨Nat.le_of_ble_eq_true rfl, Nat.le_of_ble_eq_true rfl⟩ (fun H locs hP hD hS => ?_)
              let t10 := (f_Ref_result rd t9.1 rg t9.2 rc)
              refine k_cVv (As := [.int rd, .int t9.1]) (rest := []) (wr := []) (wj := [(aT, .inr (11, [.ref bG, .ref bS, .ref bM, .int rl, .int rk, .int rr, .int re, .int rc, .int rd, .int ra, .int rb, .int rn, .int rf, .int rw])), (bG, .inl (dG, 32, .inl t10.1)), (bS, .inl (dS, 48, .inl t10.2)), (bM, .inl (dM, 16384, .inl rm))]) ⟨hx, hb, hml, hown, hB⟩ (c_Ref_result l D aT bG bS bM dG dS dM rg t9.2 rm rl rk rr re rc rd ra rb rn rf rw rd t9.1 hrd) yl_Ref_result mw_842 hK hN hP hD hS hA [0, 1, 2] [0, 1, 2, 3] [] [0, 1, 2, 3] rfl rfl rfl rfl (by decide +kernel) 0 rfl rfl rfl rfl hl.1 rfl (Nat.le_of_ble_eq_true rfl) ⟨Nat.le_of_ble_eq_true rfl, Nat.le_of_ble_eq_true rfl⟩ d_Ref_arithmetic_163 ⟨Nat.le_of_ble_eq_true rfl, Nat.le_of_ble_eq_true rfl⟩ (fun H locs hP hD hS => ?_)
              refine lv_goto (tgt := 190) hx hb d_Ref_arithmetic_166 (by decide) ?_
              refine lv_iconst (v := (1 : Int32)) hx hb d_Ref_arithmetic_190 (by decide) ?_
              have ef : f_Ref_arithmetic p0 rg rs rc rd ra rb = ((1 : Int32), t10.1, t10.2) := by unfold f_Ref_arithmetic; try dsimp only; rw [if_neg h1, if_neg h2, if_neg h3, if_neg h4, if_neg h5, if_pos h6]
              exact k_zret hx hb hr hlocks hK hP hD hS [0, 1, 2, 3] rfl (by rw [ef] <;> rfl) (by rw [ef] <;> rfl) nb1 d_Ref_arithmetic_191
          · refine lv_aload_n hx hb d_Ref_arithmetic_118 rfl (lv_at hl 2 rfl) ?_
            refine lv_aload_n hx hb d_Ref_arithmetic_119 rfl (lv_at hl 2 rfl) ?_
            refine va_get (D := D) (ci := 11) (v := .int rd) (C := "MappedProcessorModel") (T := T_Ref) (N := 14) hx hb hB iw_Ref hown hK hP 0 rfl rfl 8 (by decide) (hB _ mw_651) (fun _ h9 => h9) rfl d_Ref_arithmetic_120 ?_
            refine lv_aload_n hx hb d_Ref_arithmetic_123 rfl (lv_at hl 2 rfl) ?_
            refine lv_iload_n hx hb d_Ref_arithmetic_124 rfl (lv_at hl 1 rfl) ?_
            refine lv_iload_n hx hb d_Ref_arithmetic_125 rfl (lv_at hl 0 rfl) ?_
            refine lv_aload_n hx hb d_Ref_arithmetic_126 rfl (lv_at hl 2 rfl) ?_
            refine k_cVi (As := []) (rest := [.int (rg (ix rb)), .int (rg (ix ra)), .ref aT, .int rd, .ref aT]) (wr := []) (wj := [(aT, .inr (11, [.ref bG, .ref bS, .ref bM, .int rl, .int rk, .int rr, .int re, .int rc, .int rd, .int ra, .int rb, .int rn, .int rf, .int rw])), (bG, .inl (dG, 32, .inl rg)), (bS, .inl (dS, 48, .inl rs)), (bM, .inl (dM, 16384, .inl rm))]) ⟨hx, hb, hml, hown, hB⟩ (c_Ref_carryIn l D aT bG bS bM dG dS dM rg rs rm rl rk rr re rc rd ra rb rn rf rw) yl_Ref_carryIn mw_885 hK hN hP hD hS hA [0, 1, 2] [0, 1, 2, 3] [] [0, 1, 2, 3] rfl rfl rfl rfl (by decide +kernel) 0 rfl rfl rfl rfl hl.1 rfl (Nat.le_of_ble_eq_true rfl) ⟨Nat.le_of_ble_eq_true rfl, Nat.le_of_ble_eq_true rfl⟩ d_Ref_arithmetic_127 ⟨Nat.le_of_ble_eq_true rfl, Nat.le_of_ble_eq_true rfl⟩ (fun H locs hP hD hS => ?_)
            let t11 := (f_Ref_sum (rg (ix ra)) (rg (ix rb)) (f_Ref_carryIn rs) rs)
            refine k_cVi (As := [.int (rg (ix ra)), .int (rg (ix rb)), .int (f_Ref_carryIn rs)]) (rest := [.int rd, .ref aT]) (wr := []) (wj := [(aT, .inr (11, [.ref bG, .ref bS, .ref bM, .int rl, .int rk, .int rr, .int re, .int rc, .int rd, .int ra, .int rb, .int rn, .int rf, .int rw])), (bG, .inl (dG, 32, .inl rg)), (bS, .inl (dS, 48, .inl t11.2)), (bM, .inl (dM, 16384, .inl rm))]) ⟨hx, hb, hml, hown, hB⟩ (c_Ref_sum l D aT bG bS bM dG dS dM rg rs rm rl rk rr re rc rd ra rb rn rf rw (rg (ix ra)) (rg (ix rb)) (f_Ref_carryIn rs)) yl_Ref_sum mw_778 hK hN hP hD hS hA [0, 1, 2] [0, 1, 2, 3] [] [0, 1, 2, 3] rfl rfl rfl rfl (by decide +kernel) 0 rfl rfl rfl rfl hl.1 rfl (Nat.le_of_ble_eq_true rfl) ⟨Nat.le_of_ble_eq_true rfl, Nat.le_of_ble_eq_true rfl⟩ d_Ref_arithmetic_130 ⟨Nat.le_of_ble_eq_true rfl, Nat.le_of_ble_eq_true rfl⟩ (fun H locs hP hD hS => ?_)
            let t12 := (f_Ref_result rd t11.1 rg t11.2 rc)
            refine k_cVv (As := [.int rd, .int t11.1]) (rest := []) (wr := []) (wj := [(aT, .inr (11, [.ref bG, .ref bS, .ref bM, .int rl, .int rk, .int rr, .int re, .int rc, .int rd, .int ra, .int rb, .int rn, .int rf, .int rw])), (bG, .inl (dG, 32, .inl t12.1)), (bS, .inl (dS, 48, .inl t12.2)), (bM, .inl (dM, 16384, .inl rm))]) ⟨hx, hb, hml, hown, hB⟩ (c_Ref_result l D aT bG bS bM dG dS dM rg t11.2 rm rl rk rr re rc rd ra rb rn rf rw rd t11.1 hrd) yl_Ref_result mw_842 hK hN hP hD hS hA [0, 1, 2] [0, 1, 2, 3] [] [0, 1, 2, 3] rfl rfl rfl rfl (by decide +kernel) 0 rfl rfl rfl rfl hl.1 rfl (Nat.le_of_ble_eq_true rfl) ⟨Nat.le_of_ble_eq_true rfl, Nat.le_of_ble_eq_true rfl⟩ d_Ref_arithmetic_133 ⟨Nat.le_of_ble_eq_true rfl, Nat.le_of_ble_eq_true rfl⟩ (fun H locs hP hD hS => ?_)
            refine lv_goto (tgt := 190) hx hb d_Ref_arithmetic_136 (by decide) ?_
            refine lv_iconst (v := (1 : Int32)) hx hb d_Ref_arithmetic_190 (by decide) ?_
            have ef : f_Ref_arithmetic p0 rg rs rc rd ra rb = ((1 : Int32), t12.1, t12.2) := by unfold f_Ref_arithmetic; try dsimp only; rw [if_neg h1, if_neg h2, if_neg h3, if_neg h4, if_pos h5]
            exact k_zret hx hb hr hlocks hK hP hD hS [0, 1, 2, 3] rfl (by rw [ef] <;> rfl) (by rw [ef] <;> rfl) nb1 d_Ref_arithmetic_191
        · refine lv_aload_n hx hb d_Ref_arithmetic_91 rfl (lv_at hl 2 rfl) ?_
          refine lv_aload_n hx hb d_Ref_arithmetic_92 rfl (lv_at hl 2 rfl) ?_
          refine va_get (D := D) (ci := 11) (v := .int rd) (C := "MappedProcessorModel") (T := T_Ref) (N := 14) hx hb hB iw_Ref hown hK hP 0 rfl rfl 8 (by decide) (hB _ mw_651) (fun _ h9 => h9) rfl d_Ref_arithmetic_93 ?_
          refine lv_aload_n hx hb d_Ref_arithmetic_96 rfl (lv_at hl 2 rfl) ?_
          refine lv_iload_n hx hb d_Ref_arithmetic_97 rfl (lv_at hl 0 rfl) ?_
          refine lv_iload_n hx hb d_Ref_arithmetic_98 rfl (lv_at hl 1 rfl) ?_
          refine lv_iconst (v := (-1 : Int32)) hx hb d_Ref_arithmetic_99 (by decide) ?_
          refine lv_ixor hx hb d_Ref_arithmetic_100 ?_
          refine lv_iconst (v := (1 : Int32)) hx hb d_Ref_arithmetic_101 (by decide) ?_
          let t13 := (f_Ref_sum (rg (ix rb)) ((rg (ix ra)) ^^^ (-1 : Int32)) (1 : Int32) rs)
          refine k_cVi (As := [.int (rg (ix rb)), .int ((rg (ix ra)) ^^^ (-1 : Int32)), .int (1 : Int32)]) (rest := [.int rd, .ref aT]) (wr := []) (wj := [(aT, .inr (11, [.ref bG, .ref bS, .ref bM, .int rl, .int rk, .int rr, .int re, .int rc, .int rd, .int ra, .int rb, .int rn, .int rf, .int rw])), (bG, .inl (dG, 32, .inl rg)), (bS, .inl (dS, 48, .inl t13.2)), (bM, .inl (dM, 16384, .inl rm))]) ⟨hx, hb, hml, hown, hB⟩ (c_Ref_sum l D aT bG bS bM dG dS dM rg rs rm rl rk rr re rc rd ra rb rn rf rw (rg (ix rb)) ((rg (ix ra)) ^^^ (-1 : Int32)) (1 : Int32)) yl_Ref_sum mw_778 hK hN hP hD hS hA [0, 1, 2] [0, 1, 2, 3] [] [0, 1, 2, 3] rfl rfl rfl rfl (by decide +kernel) 0 rfl rfl rfl rfl hl.1 rfl (Nat.le_of_ble_eq_true rfl) ⟨Nat.le_of_ble_eq_true rfl, Nat.le_of_ble_eq_true rfl⟩ d_Ref_arithmetic_102 ⟨Nat.le_of_ble_eq_true rfl, Nat.le_of_ble_eq_true rfl⟩ (fun H locs hP hD hS => ?_)
          let t14 := (f_Ref_result rd t13.1 rg t13.2 rc)
          refine k_cVv (As := [.int rd, .int t13.1]) (rest := []) (wr := []) (wj := [(aT, .inr (11, [.ref bG, .ref bS, .ref bM, .int rl, .int rk, .int rr, .int re, .int rc, .int rd, .int ra, .int rb, .int rn, .int rf, .int rw])), (bG, .inl (dG, 32, .inl t14.1)), (bS, .inl (dS, 48, .inl t14.2)), (bM, .inl (dM, 16384, .inl rm))]) ⟨hx, hb, hml, hown, hB⟩ (c_Ref_result l D aT bG bS bM dG dS dM rg t13.2 rm rl rk rr re rc rd ra rb rn rf rw rd t13.1 hrd) yl_Ref_result mw_842 hK hN hP hD hS hA [0, 1, 2] [0, 1, 2, 3] [] [0, 1, 2, 3] rfl rfl rfl rfl (by decide +kernel) 0 rfl rfl rfl rfl hl.1 rfl (Nat.le_of_ble_eq_true rfl) ⟨Nat.le_of_ble_eq_true rfl, Nat.le_of_ble_eq_true rfl⟩ d_Ref_arithmetic_105 ⟨Nat.le_of_ble_eq_true rfl, Nat.le_of_ble_eq_true rfl⟩ (fun H locs hP hD hS => ?_)
          refine lv_goto (tgt := 190) hx hb d_Ref_arithmetic_108 (by decide) ?_
          refine lv_iconst (v := (1 : Int32)) hx hb d_Ref_arithmetic_190 (by decide) ?_
          have ef : f_Ref_arithmetic p0 rg rs rc rd ra rb = ((1 : Int32), t14.1, t14.2) := by unfold f_Ref_arithmetic; try dsimp only; rw [if_neg h1, if_neg h2, if_neg h3, if_pos h4]
          exact k_zret hx hb hr hlocks hK hP hD hS [0, 1, 2, 3] rfl (by rw [ef] <;> rfl) (by rw [ef] <;> rfl) nb1 d_Ref_arithmetic_191
      · refine lv_aload_n hx hb d_Ref_arithmetic_67 rfl (lv_at hl 2 rfl) ?_
        refine lv_aload_n hx hb d_Ref_arithmetic_68 rfl (lv_at hl 2 rfl) ?_
        refine va_get (D := D) (ci := 11) (v := .int rd) (C := "MappedProcessorModel") (T := T_Ref) (N := 14) hx hb hB iw_Ref hown hK hP 0 rfl rfl 8 (by decide) (hB _ mw_651) (fun _ h9 => h9) rfl d_Ref_arithmetic_69 ?_
        refine lv_aload_n hx hb d_Ref_arithmetic_72 rfl (lv_at hl 2 rfl) ?_
        refine lv_iload_n hx hb d_Ref_arithmetic_73 rfl (lv_at hl 1 rfl) ?_
        refine lv_iload_n hx hb d_Ref_arithmetic_74 rfl (lv_at hl 0 rfl) ?_
        refine lv_iconst (v := (0 : Int32)) hx hb d_Ref_arithmetic_75 (by decide) ?_
        let t15 := (f_Ref_sum (rg (ix ra)) (rg (ix rb)) (0 : Int32) rs)
        refine k_cVi (As := [.int (rg (ix ra)), .int (rg (ix rb)), .int (0 : Int32)]) (rest := [.int rd, .ref aT]) (wr := []) (wj := [(aT, .inr (11, [.ref bG, .ref bS, .ref bM, .int rl, .int rk, .int rr, .int re, .int rc, .int rd, .int ra, .int rb, .int rn, .int rf, .int rw])), (bG, .inl (dG, 32, .inl rg)), (bS, .inl (dS, 48, .inl t15.2)), (bM, .inl (dM, 16384, .inl rm))]) ⟨hx, hb, hml, hown, hB⟩ (c_Ref_sum l D aT bG bS bM dG dS dM rg rs rm rl rk rr re rc rd ra rb rn rf rw (rg (ix ra)) (rg (ix rb)) (0 : Int32)) yl_Ref_sum mw_778 hK hN hP hD hS hA [0, 1, 2] [0, 1, 2, 3] [] [0, 1, 2, 3] rfl rfl rfl rfl (by decide +kernel) 0 rfl rfl rfl rfl hl.1 rfl (Nat.le_of_ble_eq_true rfl) ⟨Nat.le_of_ble_eq_true rfl, Nat.le_of_ble_eq_true rfl⟩ d_Ref_arithmetic_76 ⟨Nat.le_of_ble_eq_true rfl, Nat.le_of_ble_eq_true rfl⟩ (fun H locs hP hD hS => ?_)
        let t16 := (f_Ref_result rd t15.1 rg t15.2 rc)
        refine k_cVv (As := [.int rd, .int t15.1]) (rest := []) (wr := []) (wj := [(aT, .inr (11, [.ref bG, .ref bS, .ref bM, .int rl, .int rk, .int rr, .int re, .int rc, .int rd, .int ra, .int rb, .int rn, .int rf, .int rw])), (bG, .inl (dG, 32, .inl t16.1)), (bS, .inl (dS, 48, .inl t16.2)), (bM, .inl (dM, 16384, .inl rm))]) ⟨hx, hb, hml, hown, hB⟩ (c_Ref_result l D aT bG bS bM dG dS dM rg t15.2 rm rl rk rr re rc rd ra rb rn rf rw rd t15.1 hrd) yl_Ref_result mw_842 hK hN hP hD hS hA [0, 1, 2] [0, 1, 2, 3] [] [0, 1, 2, 3] rfl rfl rfl rfl (by decide +kernel) 0 rfl rfl rfl rfl hl.1 rfl (Nat.le_of_ble_eq_true rfl) ⟨Nat.le_of_ble_eq_true rfl, Nat.le_of_ble_eq_true rfl⟩ d_Ref_arithmetic_79 ⟨Nat.le_of_ble_eq_true rfl, Nat.le_of_ble_eq_true rfl⟩ (fun H locs hP hD hS => ?_)
        refine lv_goto (tgt := 190) hx hb d_Ref_arithmetic_82 (by decide) ?_
        refine lv_iconst (v := (1 : Int32)) hx hb d_Ref_arithmetic_190 (by decide) ?_
        have ef : f_Ref_arithmetic p0 rg rs rc rd ra rb = ((1 : Int32), t16.1, t16.2) := by unfold f_Ref_arithmetic; try dsimp only; rw [if_neg h1, if_neg h2, if_pos h3]
        exact k_zret hx hb hr hlocks hK hP hD hS [0, 1, 2, 3] rfl (by rw [ef] <;> rfl) (by rw [ef] <;> rfl) nb1 d_Ref_arithmetic_191
    · refine lv_aload_n hx hb d_Ref_arithmetic_47 rfl (lv_at hl 2 rfl) ?_
      refine lv_aload_n hx hb d_Ref_arithmetic_48 rfl (lv_at hl 2 rfl) ?_
      refine va_get (D := D) (ci := 11) (v := .int rd) (C := "MappedProcessorModel") (T := T_Ref) (N := 14) hx hb hB iw_Ref hown hK hP 0 rfl rfl 8 (by decide) (hB _ mw_651) (fun _ h9 => h9) rfl d_Ref_arithmetic_49 ?_
      refine lv_iload_n hx hb d_Ref_arithmetic_52 rfl (lv_at hl 0 rfl) ?_
      refine lv_iload_n hx hb d_Ref_arithmetic_53 rfl (lv_at hl 1 rfl) ?_
      refine lv_isub hx hb d_Ref_arithmetic_54 ?_
      let t17 := (f_Ref_result rd ((rg (ix rb)) - (rg (ix ra))) rg rs rc)
      refine k_cVv (As := [.int rd, .int ((rg (ix rb)) - (rg (ix ra)))]) (rest := []) (wr := []) (wj := [(aT, .inr (11, [.ref bG, .ref bS, .ref bM, .int rl, .int rk, .int rr, .int re, .int rc, .int rd, .int ra, .int rb, .int rn, .int rf, .int rw])), (bG, .inl (dG, 32, .inl t17.1)), (bS, .inl (dS, 48, .inl t17.2)), (bM, .inl (dM, 16384, .inl rm))]) ⟨hx, hb, hml, hown, hB⟩ (c_Ref_result l D aT bG bS bM dG dS dM rg rs rm rl rk rr re rc rd ra rb rn rf rw rd ((rg (ix rb)) - (rg (ix ra))) hrd) yl_Ref_result mw_842 hK hN hP hD hS hA [0, 1, 2] [0, 1, 2, 3] [] [0, 1, 2, 3] rfl rfl rfl rfl (by decide +kernel) 0 rfl rfl rfl rfl hl.1 rfl (Nat.le_of_ble_eq_true rfl) ⟨Nat.le_of_ble_eq_true rfl, Nat.le_of_ble_eq_true rfl⟩ d_Ref_arithmetic_55 ⟨Nat.le_of_ble_eq_true rfl, Nat.le_of_ble_eq_true rfl⟩ (fun H locs hP hD hS => ?_)
      refine lv_goto (tgt := 190) hx hb d_Ref_arithmetic_58 (by decide) ?_
      refine lv_iconst (v := (1 : Int32)) hx hb d_Ref_arithmetic_190 (by decide) ?_
      have ef : f_Ref_arithmetic p0 rg rs rc rd ra rb = ((1 : Int32), t17.1, t17.2) := by unfold f_Ref_arithmetic; try dsimp only; rw [if_neg h1, if_pos h2]
      exact k_zret hx hb hr hlocks hK hP hD hS [0, 1, 2, 3] rfl (by rw [ef] <;> rfl) (by rw [ef] <;> rfl) nb1 d_Ref_arithmetic_191
  · refine lv_aload_n hx hb d_Ref_arithmetic_27 rfl (lv_at hl 2 rfl) ?_
    refine lv_aload_n hx hb d_Ref_arithmetic_28 rfl (lv_at hl 2 rfl) ?_
    refine va_get (D := D) (ci := 11) (v := .int rd) (C := "MappedProcessorModel") (T := T_Ref) (N := 14) hx hb hB iw_Ref hown hK hP 0 rfl rfl 8 (by decide) (hB _ mw_651) (fun _ h9 => h9) rfl d_Ref_arithmetic_29 ?_
    refine lv_iload_n hx hb d_Ref_arithmetic_32 rfl (lv_at hl 1 rfl) ?_
    refine lv_iload_n hx hb d_Ref_arithmetic_33 rfl (lv_at hl 0 rfl) ?_
    refine lv_iadd hx hb d_Ref_arithmetic_34 ?_
    let t18 := (f_Ref_result rd ((rg (ix ra)) + (rg (ix rb))) rg rs rc)
    refine k_cVv (As := [.int rd, .int ((rg (ix ra)) + (rg (ix rb)))]) (rest := []) (wr := []) (wj := [(aT, .inr (11, [.ref bG, .ref bS, .ref bM, .int rl, .int rk, .int rr, .int re, .int rc, .int rd, .int ra, .int rb, .int rn, .int rf, .int rw])), (bG, .inl (dG, 32, .inl t18.1)), (bS, .inl (dS, 48, .inl t18.2)), (bM, .inl (dM, 16384, .inl rm))]) ⟨hx, hb, hml, hown, hB⟩ (c_Ref_result l D aT bG bS bM dG dS dM rg rs rm rl rk rr re rc rd ra rb rn rf rw rd ((rg (ix ra)) + (rg (ix rb))) hrd) yl_Ref_result mw_842 hK hN hP hD hS hA [0, 1, 2] [0, 1, 2, 3] [] [0, 1, 2, 3] rfl rfl rfl rfl (by decide +kernel) 0 rfl rfl rfl rfl hl.1 rfl (Nat.le_of_ble_eq_true rfl) ⟨Nat.le_of_ble_eq_true rfl, Nat.le_of_ble_eq_true rfl⟩ d_Ref_arithmetic_35 ⟨Nat.le_of_ble_eq_true rfl, Nat.le_of_ble_eq_true rfl⟩ (fun H locs hP hD hS => ?_)
    refine lv_goto (tgt := 190) hx hb d_Ref_arithmetic_38 (by decide) ?_
    refine lv_iconst (v := (1 : Int32)) hx hb d_Ref_arithmetic_190 (by decide) ?_
    have ef : f_Ref_arithmetic p0 rg rs rc rd ra rb = ((1 : Int32), t18.1, t18.2) := by unfold f_Ref_arithmetic; try dsimp only; rw [if_pos h1]
    exact k_zret hx hb hr hlocks hK hP hD hS [0, 1, 2, 3] rfl (by rw [ef] <;> rfl) (by rw [ef] <;> rfl) nb1 d_Ref_arithmetic_191
/-! MappedProcessorModel.products(I)Z -/
theorem d_Ref_products_0 : decode b_Ref_products 0 = .ok (.aload_n 0, 1) := by decide +kernel
theorem d_Ref_products_1 : decode b_Ref_products 1 = .ok (.getfield 7, 3) := by decide +kernel
theorem d_Ref_products_4 : decode b_Ref_products 4 = .ok (.aload_n 0, 1) := by decide +kernel
theorem d_Ref_products_5 : decode b_Ref_products 5 = .ok (.getfield 85, 3) := by decide +kernel
theorem d_Ref_products_8 : decode b_Ref_products 8 = .ok (.iaload, 1) := by decide +kernel
theorem d_Ref_products_9 : decode b_Ref_products 9 = .ok (.istore_n 2, 1) := by decide +kernel
theorem d_Ref_products_10 : decode b_Ref_products 10 = .ok (.aload_n 0, 1) := by decide +kernel
theorem d_Ref_products_11 : decode b_Ref_products 11 = .ok (.getfield 7, 3) := by decide +kernel
theorem d_Ref_products_14 : decode b_Ref_products 14 = .ok (.aload_n 0, 1) := by decide +kernel
theorem d_Ref_products_15 : decode b_Ref_products 15 = .ok (.getfield 88, 3) := by decide +kernel
theorem d_Ref_products_18 : decode b_Ref_products 18 = .ok (.iaload, 1) := by decide +kernel
theorem d_Ref_products_19 : decode b_Ref_products 19 = .ok (.istore_n 3, 1) := by decide +kernel
theorem d_Ref_products_20 : decode b_Ref_products 20 = .ok (.iload_n 1, 1) := by decide +kernel
theorem d_Ref_products_21 : decode b_Ref_products 21 = .ok (.sipush 235, 3) := by decide +kernel
theorem d_Ref_products_24 : decode b_Ref_products 24 = .ok (.if_icmp .ne 17, 3) := by decide +kernel
theorem d_Ref_products_27 : decode b_Ref_products 27 = .ok (.aload_n 0, 1) := by decide +kernel
theorem d_Ref_products_28 : decode b_Ref_products 28 = .ok (.aload_n 0, 1) := by decide +kernel
theorem d_Ref_products_29 : decode b_Ref_products 29 = .ok (.getfield 82, 3) := by decide +kernel
theorem d_Ref_products_32 : decode b_Ref_products 32 = .ok (.iload_n 2, 1) := by decide +kernel
theorem d_Ref_products_33 : decode b_Ref_products 33 = .ok (.iload_n 3, 1) := by decide +kernel
theorem d_Ref_products_34 : decode b_Ref_products 34 = .ok (.imul, 1) := by decide +kernel
theorem d_Ref_products_35 : decode b_Ref_products 35 = .ok (.invokevirtual 175, 3) := by decide +kernel
theorem d_Ref_products_38 : decode b_Ref_products 38 = .ok (.goto 137, 3) := by decide +kernel
theorem d_Ref_products_41 : decode b_Ref_products 41 = .ok (.iload_n 1, 1) := by decide +kernel
theorem d_Ref_products_42 : decode b_Ref_products 42 = .ok (.bipush 75, 2) := by decide +kernel
theorem d_Ref_products_44 : decode b_Ref_products 44 = .ok (.if_icmp .ne 23, 3) := by decide +kernel
theorem d_Ref_products_47 : decode b_Ref_products 47 = .ok (.aload_n 0, 1) := by decide +kernel
theorem d_Ref_products_48 : decode b_Ref_products 48 = .ok (.aload_n 0, 1) := by decide +kernel
theorem d_Ref_products_49 : decode b_Ref_products 49 = .ok (.getfield 82, 3) := by decide +kernel
theorem d_Ref_products_52 : decode b_Ref_products 52 = .ok (.iload_n 2, 1) := by decide +kernel
theorem d_Ref_products_53 : decode b_Ref_products 53 = .ok (.i2l, 1) := by decide +kernel
theorem d_Ref_products_54 : decode b_Ref_products 54 = .ok (.iload_n 3, 1) := by decide +kernel
theorem d_Ref_products_55 : decode b_Ref_products 55 = .ok (.i2l, 1) := by decide +kernel
theorem d_Ref_products_56 : decode b_Ref_products 56 = .ok (.lmul, 1) := by decide +kernel
theorem d_Ref_products_57 : decode b_Ref_products 57 = .ok (.bipush 32, 2) := by decide +kernel
theorem d_Ref_products_59 : decode b_Ref_products 59 = .ok (.lshr, 1) := by decide +kernel
theorem d_Ref_products_60 : decode b_Ref_products 60 = .ok (.l2i, 1) := by decide +kernel
theorem d_Ref_products_61 : decode b_Ref_products 61 = .ok (.invokevirtual 175, 3) := by decide +kernel
theorem d_Ref_products_64 : decode b_Ref_products 64 = .ok (.goto 111, 3) := by decide +kernel
theorem d_Ref_products_67 : decode b_Ref_products 67 = .ok (.iload_n 1, 1) := by decide +kernel
theorem d_Ref_products_68 : decode b_Ref_products 68 = .ok (.bipush 11, 2) := by decide +kernel
theorem d_Ref_products_70 : decode b_Ref_products 70 = .ok (.if_icmp .ne 27, 3) := by decide +kernel
theorem d_Ref_products_73 : decode b_Ref_products 73 = .ok (.aload_n 0, 1) := by decide +kernel
theorem d_Ref_products_74 : decode b_Ref_products 74 = .ok (.aload_n 0, 1) := by decide +kernel
theorem d_Ref_products_75 : decode b_Ref_products 75 = .ok (.getfield 82, 3) := by decide +kernel
theorem d_Ref_products_78 : decode b_Ref_products 78 = .ok (.iload_n 2, 1) := by decide +kernel
theorem d_Ref_products_79 : decode b_Ref_products 79 = .ok (.invokestatic 103, 3) := by decide +kernel
theorem d_Ref_products_82 : decode b_Ref_products 82 = .ok (.iload_n 3, 1) := by decide +kernel
theorem d_Ref_products_83 : decode b_Ref_products 83 = .ok (.invokestatic 103, 3) := by decide +kernel
theorem d_Ref_products_86 : decode b_Ref_products 86 = .ok (.lmul, 1) := by decide +kernel
theorem d_Ref_products_87 : decode b_Ref_products 87 = .ok (.bipush 32, 2) := by decide +kernel
theorem d_Ref_products_89 : decode b_Ref_products 89 = .ok (.lushr, 1) := by decide +kernel
theorem d_Ref_products_90 : decode b_Ref_products 90 = .ok (.l2i, 1) := by decide +kernel
theorem d_Ref_products_91 : decode b_Ref_products 91 = .ok (.invokevirtual 175, 3) := by decide +kernel
theorem d_Ref_products_94 : decode b_Ref_products 94 = .ok (.goto 81, 3) := by decide +kernel
theorem d_Ref_products_97 : decode b_Ref_products 97 = .ok (.iload_n 1, 1) := by decide +kernel
theorem d_Ref_products_98 : decode b_Ref_products 98 = .ok (.sipush 491, 3) := by decide +kernel
theorem d_Ref_products_101 : decode b_Ref_products 101 = .ok (.if_icmp .ne 36, 3) := by decide +kernel
theorem d_Ref_products_104 : decode b_Ref_products 104 = .ok (.aload_n 0, 1) := by decide +kernel
theorem d_Ref_products_105 : decode b_Ref_products 105 = .ok (.aload_n 0, 1) := by decide +kernel
theorem d_Ref_products_106 : decode b_Ref_products 106 = .ok (.getfield 82, 3) := by decide +kernel
theorem d_Ref_products_109 : decode b_Ref_products 109 = .ok (.iload_n 3, 1) := by decide +kernel
theorem d_Ref_products_110 : decode b_Ref_products 110 = .ok (.ifCond .eq 14, 3) := by decide +kernel
theorem d_Ref_products_113 : decode b_Ref_products 113 = .ok (.iload_n 2, 1) := by decide +kernel
theorem d_Ref_products_114 : decode b_Ref_products 114 = .ok (.ldc 44, 2) := by decide +kernel
theorem d_Ref_products_116 : decode b_Ref_products 116 = .ok (.if_icmp .ne 12, 3) := by decide +kernel
theorem d_Ref_products_119 : decode b_Ref_products 119 = .ok (.iload_n 3, 1) := by decide +kernel
theorem d_Ref_products_120 : decode b_Ref_products 120 = .ok (.iconst (-1), 1) := by decide +kernel
theorem d_Ref_products_121 : decode b_Ref_products 121 = .ok (.if_icmp .ne 7, 3) := by decide +kernel
theorem d_Ref_products_124 : decode b_Ref_products 124 = .ok (.iconst 0, 1) := by decide +kernel
theorem d_Ref_products_125 : decode b_Ref_products 125 = .ok (.goto 6, 3) := by decide +kernel
theorem d_Ref_products_128 : decode b_Ref_products 128 = .ok (.iload_n 2, 1) := by decide +kernel
theorem d_Ref_products_129 : decode b_Ref_products 129 = .ok (.iload_n 3, 1) := by decide +kernel
theorem d_Ref_products_130 : decode b_Ref_products 130 = .ok (.idiv, 1) := by decide +kernel
theorem d_Ref_products_131 : decode b_Ref_products 131 = .ok (.invokevirtual 175, 3) := by decide +kernel
theorem d_Ref_products_134 : decode b_Ref_products 134 = .ok (.goto 41, 3) := by decide +kernel
theorem d_Ref_products_137 : decode b_Ref_products 137 = .ok (.iload_n 1, 1) := by decide +kernel
theorem d_Ref_products_138 : decode b_Ref_products 138 = .ok (.sipush 459, 3) := by decide +kernel
theorem d_Ref_products_141 : decode b_Ref_products 141 = .ok (.if_icmp .ne 32, 3) := by decide +kernel
theorem d_Ref_products_144 : decode b_Ref_products 144 = .ok (.aload_n 0, 1) := by decide +kernel
theorem d_Ref_products_145 : decode b_Ref_products 145 = .ok (.aload_n 0, 1) := by decide +kernel
theorem d_Ref_products_146 : decode b_Ref_products 146 = .ok (.getfield 82, 3) := by decide +kernel
theorem d_Ref_products_149 : decode b_Ref_products 149 = .ok (.iload_n 3, 1) := by decide +kernel
theorem d_Ref_products_150 : decode b_Ref_products 150 = .ok (.ifCond .ne 7, 3) := by decide +kernel
theorem d_Ref_products_153 : decode b_Ref_products 153 = .ok (.iconst 0, 1) := by decide +kernel
theorem d_Ref_products_154 : decode b_Ref_products 154 = .ok (.goto 13, 3) := by decide +kernel
theorem d_Ref_products_157 : decode b_Ref_products 157 = .ok (.iload_n 2, 1) := by decide +kernel
theorem d_Ref_products_158 : decode b_Ref_products 158 = .ok (.invokestatic 103, 3) := by decide +kernel
theorem d_Ref_products_161 : decode b_Ref_products 161 = .ok (.iload_n 3, 1) := by decide +kernel
theorem d_Ref_products_162 : decode b_Ref_products 162 = .ok (.invokestatic 103, 3) := by decide +kernel
theorem d_Ref_products_165 : decode b_Ref_products 165 = .ok (.ldiv, 1) := by decide +kernel
theorem d_Ref_products_166 : decode b_Ref_products 166 = .ok (.l2i, 1) := by decide +kernel
theorem d_Ref_products_167 : decode b_Ref_products 167 = .ok (.invokevirtual 175, 3) := by decide +kernel
theorem d_Ref_products_170 : decode b_Ref_products 170 = .ok (.goto 5, 3) := by decide +kernel
theorem d_Ref_products_173 : decode b_Ref_products 173 = .ok (.iconst 0, 1) := by decide +kernel
theorem d_Ref_products_174 : decode b_Ref_products 174 = .ok (.ireturn, 1) := by decide +kernel
theorem d_Ref_products_175 : decode b_Ref_products 175 = .ok (.iconst 1, 1) := by decide +kernel
theorem d_Ref_products_176 : decode b_Ref_products 176 = .ok (.ireturn, 1) := by decide +kernel
def f_Ref_products (p0 : Int32) (rg : Nat → Int32) (rs : Nat → Int32) (rc : Int32) (rd : Int32) (ra : Int32) (rb : Int32) : Int32 × (Nat → Int32) × (Nat → Int32) :=
  if p0 = (235 : Int32) then
    let t33 := (f_Ref_result rd ((rg (ix ra)) * (rg (ix rb))) rg rs rc)
    ((1 : Int32), t33.1, t33.2)
  else
    if p0 = (75 : Int32) then
      let t32 := (f_Ref_result rd ((lshr (((rg (ix ra)).toInt64) * ((rg (ix rb)).toInt64)) (32 : Int32)).toInt32) rg rs rc)
      ((1 : Int32), t32.1, t32.2)
    else
      if p0 = (11 : Int32) then
        let t31 := (f_Ref_result rd ((lush ((f_Ref_unsigned (rg (ix ra))) * (f_Ref_unsigned (rg (ix rb)))) (32 : Int32)).toInt32) rg rs rc)
        ((1 : Int32), t31.1, t31.2)
      else
        if p0 = (491 : Int32) then
          if (rg (ix rb)) = (0 : Int32) then
            let t19 := (f_Ref_result rd (0 : Int32) rg rs rc)
            ((1 : Int32), t19.1, t19.2)
          else
            if (rg (ix ra)) = (-2147483648 : Int32) then
              if (rg (ix rb)) = (-1 : Int32) then
                let t30 := (f_Ref_result rd (0 : Int32) rg rs rc)
                ((1 : Int32), t30.1, t30.2)
              else
                let t29 := (f_Ref_result rd ((rg (ix ra)) / (rg (ix rb))) rg rs rc)
                ((1 : Int32), t29.1, t29.2)
            else
              let t24 := (f_Ref_result rd ((rg (ix ra)) / (rg (ix rb))) rg rs rc)
              ((1 : Int32), t24.1, t24.2)
        else
          if p0 = (459 : Int32) then
            if (rg (ix rb)) = (0 : Int32) then
              let t11 := (f_Ref_result rd (0 : Int32) rg rs rc)
              ((1 : Int32), t11.1, t11.2)
            else
              let t10 := (f_Ref_result rd (((f_Ref_unsigned (rg (ix ra))) / (f_Ref_unsigned (rg (ix rb)))).toInt32) rg rs rc)
              ((1 : Int32), t10.1, t10.2)
          else
            ((0 : Int32), rg, rs)
set_option maxHeartbeats 4000000 in
set_option maxRecDepth 100000 in
theorem ib_Ref_products (p0 : Int32) (rg : Nat → Int32) (rs : Nat → Int32) (rc : Int32) (rd : Int32) (ra : Int32) (rb : Int32) : isB (f_Ref_products p0 rg rs rc rd ra rb).1 := by
  unfold f_Ref_products
  try dsimp only
  repeat' (first | refine ib_ite ?_ ?_ | refine ib_ite0 ?_ ?_ | with_reducible exact ib0 | with_reducible exact ib1 | (dsimp only; first | exact ib0 | exact ib1))
theorem nb_Ref_products (p0 : Int32) (rg : Nat → Int32) (rs : Nat → Int32) (rc : Int32) (rd : Int32) (ra : Int32) (rb : Int32) : narrow .boolean (.int (f_Ref_products p0 rg rs rc rd ra rb).1) = .int (f_Ref_products p0 rg rs rc rd ra rb).1 := nb_of (ib_Ref_products p0 rg rs rc rd ra rb)
set_option maxHeartbeats 4000000 in
set_option maxRecDepth 100000 in
theorem c_Ref_products (l : Launch) (D : va_G) (aT bG bS bM : Nat) (dG dS dM : ClassId) (rg : Nat → Int32) (rs : Nat → Int32) (rm : Nat → Int32) (rl : Int32) (rk : Int32) (rr : Int32) (re : Int32) (rc : Int32) (rd : Int32) (ra : Int32) (rb : Int32) (rn : Int32) (rf : Int32) (rw : Int32) (p0 : Int32) (hra : vp_in ra 32) (hrd : vp_in rd 32) (hrb : vp_in rb 32) : kMi l y_Ref_products b_Ref_products 4 (some .boolean) 4 92 D kCl [(dG, .int), (dS, .int), (dM, .int)] [.ref aT, .int p0] [(aT, .inr (11, [.ref bG, .ref bS, .ref bM, .int rl, .int rk, .int rr, .int re, .int rc, .int rd, .int ra, .int rb, .int rn, .int rf, .int rw])), (bG, .inl (dG, 32, .inl rg)), (bS, .inl (dS, 48, .inl rs)), (bM, .inl (dM, 16384, .inl rm))] (f_Ref_products p0 rg rs rc rd ra rb).1 [(aT, .inr (11, [.ref bG, .ref bS, .ref bM, .int rl, .int rk, .int rr, .int re, .int rc, .int rd, .int ra, .int rb, .int rn, .int rf, .int rw])), (bG, .inl (dG, 32, .inl (f_Ref_products p0 rg rs rc rd ra rb).2.1)), (bS, .inl (dS, 48, .inl (f_Ref_products p0 rg rs rc rd ra rb).2.2)), (bM, .inl (dM, 16384, .inl rm))] := by
  refine k_entry (Qc := fun A => kQi D kCl [(dG, .int), (dS, .int), (dM, .int)] (f_Ref_products p0 rg rs rc rd ra rb).1 [(aT, .inr (11, [.ref bG, .ref bS, .ref bM, .int rl, .int rk, .int rr, .int re, .int rc, .int rd, .int ra, .int rb, .int rn, .int rf, .int rw])), (bG, .inl (dG, 32, .inl (f_Ref_products p0 rg rs rc rd ra rb).2.1)), (bS, .inl (dS, 48, .inl (f_Ref_products p0 rg rs rc rd ra rb).2.2)), (bM, .inl (dM, 16384, .inl rm))] A) (lv := [(0, .ref aT), (1, .int p0)]) (by decide) (Nat.le_of_ble_eq_true rfl) rfl ?_
  intro p e s m below meth c A ls hx hb hr hml hB hown hlocks hin hA hK hN hP hD hS hl
  have hown : s.vm.findClass "MappedProcessorModel" = some m.cls := hown
  refine lv_aload_n hx hb d_Ref_products_0 rfl (lv_at hl 0 rfl) ?_
  refine va_get (D := D) (ci := 11) (v := .ref bG) (C := "MappedProcessorModel") (T := T_Ref) (N := 14) hx hb hB iw_Ref hown hK hP 0 rfl rfl 0 (by decide) (hB _ mw_643) (fun _ h9 => h9) rfl d_Ref_products_1 ?_
  refine lv_aload_n hx hb d_Ref_products_4 rfl (lv_at hl 0 rfl) ?_
  refine va_get (D := D) (ci := 11) (v := .int ra) (C := "MappedProcessorModel") (T := T_Ref) (N := 14) hx hb hB iw_Ref hown hK hP 0 rfl rfl 9 (by decide) (hB _ mw_652) (fun _ h9 => h9) rfl d_Ref_products_5 ?_
  refine k_iald (j := (ix ra)) hx hb hK hP 1 0 rfl rfl rfl hra d_Ref_products_8 ?_
  refine lv_istore_n (lv' := [(2, .int (rg (ix ra))), (0, .ref aT), (1, .int p0)]) hx hb d_Ref_products_9 rfl hl (by decide) rfl (fun ls hl => ?_)
  refine lv_aload_n hx hb d_Ref_products_10 rfl (lv_at hl 1 rfl) ?_
  refine va_get (D := D) (ci := 11) (v := .ref bG) (C := "MappedProcessorModel") (T := T_Ref) (N := 14) hx hb hB iw_Ref hown hK hP 0 rfl rfl 0 (by decide) (hB _ mw_643) (fun _ h9 => h9) rfl d_Ref_products_11 ?_
  refine lv_aload_n hx hb d_Ref_products_14 rfl (lv_at hl 1 rfl) ?_
  refine va_get (D := D) (ci := 11) (v := .int rb) (C := "MappedProcessorModel") (T := T_Ref) (N := 14) hx hb hB iw_Ref hown hK hP 0 rfl rfl 10 (by decide) (hB _ mw_653) (fun _ h9 => h9) rfl d_Ref_products_15 ?_
  refine k_iald (j := (ix rb)) hx hb hK hP 1 0 rfl rfl rfl hrb d_Ref_products_18 ?_
  refine lv_istore_n (lv' := [(3, .int (rg (ix rb))), (2, .int (rg (ix ra))), (0, .ref aT), (1, .int p0)]) hx hb d_Ref_products_19 rfl hl (by decide) rfl (fun ls hl => ?_)
  refine lv_iload_n hx hb d_Ref_products_20 rfl (lv_at hl 3 rfl) ?_
  refine lv_sipush (v := (235 : Int32)) hx hb d_Ref_products_21 (by decide) ?_
  refine lv_icmp_ne (tgt := 41) hx hb d_Ref_products_24 (by decide) (fun (h1 : ¬ p0 = (235 : Int32)) => ?_) (fun (h1 : p0 = (235 : Int32)) => ?_)
  · refine lv_iload_n hx hb d_Ref_products_41 rfl (lv_at hl 3 rfl) ?_
    refine lv_bipush (v := (75 : Int32)) hx hb d_Ref_products_42 (by decide) ?_
    refine lv_icmp_ne (tgt := 67) hx hb d_Ref_products_44 (by decide) (fun (h2 : ¬ p0 = (75 : Int32)) => ?_) (fun (h2 : p0 = (75 : Int32)) => ?_)
    · refine lv_iload_n hx hb d_Ref_products_67 rfl (lv_at hl 3 rfl) ?_
      refine lv_bipush (v := (11 : Int32)) hx hb d_Ref_products_68 (by decide) ?_
      refine lv_icmp_ne (tgt := 97) hx hb d_Ref_products_70 (by decide) (fun (h3 : ¬ p0 = (11 : Int32)) => ?_) (fun (h3 : p0 = (11 : Int32)) => ?_)
      · refine lv_iload_n hx hb d_Ref_products_97 rfl (lv_at hl 3 rfl) ?_
        refine lv_sipush (v := (491 : Int32)) hx hb d_Ref_products_98 (by decide) ?_
        refine lv_icmp_ne (tgt := 137) hx hb d_Ref_products_101 (by decide) (fun (h4 : ¬ p0 = (491 : Int32)) => ?_) (fun (h4 : p0 = (491 : Int32)) => ?_)
        · refine lv_iload_n hx hb d_Ref_products_137 rfl (lv_at hl 3 rfl) ?_
          refine lv_sipush (v := (459 : Int32)) hx hb d_Ref_products_138 (by decide) ?_
          refine lv_icmp_ne (tgt := 173) hx hb d_Ref_products_141 (by decide) (fun (h5 : ¬ p0 = (459 : Int32)) => ?_) (fun (h5 : p0 = (459 : Int32)) => ?_)
          · refine lv_iconst (v := (0 : Int32)) hx hb d_Ref_products_173 (by decide) ?_
            have ef : f_Ref_products p0 rg rs rc rd ra rb = ((0 : Int32), rg, rs) := by unfold f_Ref_products; try dsimp only; rw [if_neg h1, if_neg h2, if_neg h3, if_neg h4, if_neg h5]
            exact k_zret hx hb hr hlocks hK hP hD hS [0, 1, 2, 3] rfl (by rw [ef] <;> rfl) (by rw [ef] <;> rfl) nb0 d_Ref_products_174
          · refine lv_aload_n hx hb d_Ref_products_144 rfl (lv_at hl 2 rfl) ?_
            refine lv_aload_n hx hb d_Ref_products_145 rfl (lv_at hl 2 rfl) ?_
            refine va_get (D := D) (ci := 11) (v := .int rd) (C := "MappedProcessorModel") (T := T_Ref) (N := 14) hx hb hB iw_Ref hown hK hP 0 rfl rfl 8 (by decide) (hB _ mw_651) (fun _ h9 => h9) rfl d_Ref_products_146 ?_
            refine lv_iload_n hx hb d_Ref_products_149 rfl (lv_at hl 0 rfl) ?_
            refine lv_if_ne (tgt := 157) hx hb d_Ref_products_150 (by decide) (fun (h9 : ¬ (rg (ix rb)) = (0 : Int32)) => ?_) (fun (h9 : (rg (ix rb)) = (0 : Int32)) => ?_)
            · refine lv_iload_n hx hb d_Ref_products_157 rfl (lv_at hl 1 rfl) ?_
              refine k_cSl (As := [.int (rg (ix ra))]) (rest := [.int rd, .ref aT]) (wr := [(aT, .inr (11, [.ref bG, .ref bS, .ref bM, .int rl, .int rk, .int rr, .int re, .int rc, .int rd, .int ra, .int rb, .int rn, .int rf, .int rw])), (bG, .inl (dG, 32, .inl rg)), (bS, .inl (dS, 48, .inl rs)), (bM, .inl (dM, 16384, .inl rm))]) (wj := [(aT, .inr (11, [.ref bG, .ref bS, .ref bM, .int rl, .int rk, .int rr, .int re, .int rc, .int rd, .int ra, .int rb, .int rn, .int rf, .int rw])), (bG, .inl (dG, 32, .inl rg)), (bS, .inl (dS, 48, .inl rs)), (bM, .inl (dM, 16384, .inl rm))]) ⟨hx, hb, hml, hown, hB⟩ (c_Ref_unsigned l D (rg (ix ra))) yl_Ref_unsigned mw_769 hK hN hP hD hS hA [] [] [0, 1, 2, 3] [0, 1, 2, 3] rfl rfl rfl rfl (by decide +kernel) rfl hl.1 rfl (Nat.le_of_ble_eq_true rfl) ⟨Nat.le_of_ble_eq_true rfl, Nat.le_of_ble_eq_true rfl⟩ d_Ref_products_158 ⟨Nat.le_of_ble_eq_true rfl, Nat.le_of_ble_eq_true rfl⟩ (fun H locs hP hD hS => ?_)
              refine lv_iload_n hx hb d_Ref_products_161 rfl (lv_at hl 0 rfl) ?_
              refine k_cSl (As := [.int (rg (ix rb))]) (rest := [.long (f_Ref_unsigned (rg (ix ra))), .int rd, .ref aT]) (wr := [(aT, .inr (11, [.ref bG, .ref bS, .ref bM, .int rl, .int rk, .int rr, .int re, .int rc, .int rd, .int ra, .int rb, .int rn, .int rf, .int rw])), (bG, .inl (dG, 32, .inl rg)), (bS, .inl (dS, 48, .inl rs)), (bM, .inl (dM, 16384, .inl rm))]) (wj := [(aT, .inr (11, [.ref bG, .ref bS, .ref bM, .int rl, .int rk, .int rr, .int re, .int rc, .int rd, .int ra, .int rb, .int rn, .int rf, .int rw])), (bG, .inl (dG, 32, .inl rg)), (bS, .inl (dS, 48, .inl rs)), (bM, .inl (dM, 16384, .inl rm))]) ⟨hx, hb, hml, hown, hB⟩ (c_Ref_unsigned l D (rg (ix rb))) yl_Ref_unsigned mw_769 hK hN hP hD hS hA [] [] [0, 1, 2, 3] [0, 1, 2, 3] rfl rfl rfl rfl (by decide +kernel) rfl hl.1 rfl (Nat.le_of_ble_eq_true rfl) ⟨Nat.le_of_ble_eq_true rfl, Nat.le_of_ble_eq_true rfl⟩ d_Ref_products_162 ⟨Nat.le_of_ble_eq_true rfl, Nat.le_of_ble_eq_true rfl⟩ (fun H locs hP hD hS => ?_)
              refine lv_ldiv hx hb d_Ref_products_165 (ldiv_ne h9) ?_
              refine lv_l2i (v := (((f_Ref_unsigned (rg (ix ra))) / (f_Ref_unsigned (rg (ix rb)))).toInt32)) hx hb d_Ref_products_166 rfl ?_
              let t10 := (f_Ref_result rd (((f_Ref_unsigned (rg (ix ra))) / (f_Ref_unsigned (rg (ix rb)))).toInt32) rg rs rc)
              refine k_cVv (As := [.int rd, .int (((f_Ref_unsigned (rg (ix ra))) / (f_Ref_unsigned (rg (ix rb)))).toInt32)]) (rest := []) (wr := []) (wj := [(aT, .inr (11, [.ref bG, .ref bS, .ref bM, .int rl, .int rk, .int rr, .int re, .int rc, .int rd, .int ra, .int rb, .int rn, .int rf, .int rw])), (bG, .inl (dG, 32, .inl t10.1)), (bS, .inl (dS, 48, .inl t10.2)), (bM, .inl (dM, 16384, .inl rm))]) ⟨hx, hb, hml, hown, hB⟩ (c_Ref_result l D aT bG bS bM dG dS dM rg rs rm rl rk rr re rc rd ra rb rn rf rw rd (((f_Ref_unsigned (rg (ix ra))) / (f_Ref_unsigned (rg (ix rb)))).toInt32) hrd) yl_Ref_result mw_842 hK hN hP hD hS hA [0, 1, 2] [0, 1, 2, 3] [] [0, 1, 2, 3] rfl rfl rfl rfl (by decide +kernel) 0 rfl rfl rfl rfl hl.1 rfl (Nat.le_of_ble_eq_true rfl) ⟨Nat.le_of_ble_eq_true rfl, Nat.le_of_ble_eq_true rfl⟩ d_Ref_products_167 ⟨Nat.le_of_ble_eq_true rfl, Nat.le_of_ble_eq_true rfl⟩ (fun H locs hP hD hS => ?_)
              refine lv_goto (tgt := 175) hx hb d_Ref_products_170 (by decide) ?_
              refine lv_iconst (v := (1 : Int32)) hx hb d_Ref_products_175 (by decide) ?_
              have ef : f_Ref_products p0 rg rs rc rd ra rb = ((1 : Int32), t10.1, t10.2) := by unfold f_Ref_products; try dsimp only; rw [if_neg h1, if_neg h2, if_neg h3, if_neg h4, if_pos h5, if_neg h9]
              exact k_zret hx hb hr hlocks hK hP hD hS [0, 1, 2, 3] rfl (by rw [ef] <;> rfl) (by rw [ef] <;> rfl) nb1 d_Ref_products_176
            · refine lv_iconst (v := (0 : Int32)) hx hb d_Ref_products_153 (by decide) ?_
              refine lv_goto (tgt := 167) hx hb d_Ref_products_154 (by decide) ?_
              let t11 := (f_Ref_result rd (0 : Int32) rg rs rc)
              refine k_cVv (As := [.int rd, .int (0 : Int32)]) (rest := []) (wr := []) (wj := [(aT, .inr (11, [.ref bG, .ref bS, .ref bM, .int rl, .int rk, .int rr, .int re, .int rc, .int rd, .int ra, .int rb, .int rn, .int rf, .int rw])), (bG, .inl (dG, 32, .inl t11.1)), (bS, .inl (dS, 48, .inl t11.2)), (bM, .inl (dM, 16384, .inl rm))]) ⟨hx, hb, hml, hown, hB⟩ (c_Ref_result l D aT bG bS bM dG dS dM rg rs rm rl rk rr re rc rd ra rb rn rf rw rd (0 : Int32) hrd) yl_Ref_result mw_842 hK hN hP hD hS hA [0, 1, 2] [0, 1, 2, 3] [] [0, 1, 2, 3] rfl rfl rfl rfl (by decide +kernel) 0 rfl rfl rfl rfl hl.1 rfl (Nat.le_of_ble_eq_true rfl) ⟨Nat.le_of_ble_eq_true rfl, Nat.le_of_ble_eq_true rfl⟩ d_Ref_products_167 ⟨Nat.le_of_ble_eq_true rfl, Nat.le_of_ble_eq_true rfl⟩ (fun H locs hP hD hS => ?_)
              refine lv_goto (tgt := 175) hx hb d_Ref_products_170 (by decide) ?_
              refine lv_iconst (v := (1 : Int32)) hx hb d_Ref_products_175 (by decide) ?_
              have ef : f_Ref_products p0 rg rs rc rd ra rb = ((1 : Int32), t11.1, t11.2) := by unfold f_Ref_products; try dsimp only; rw [if_neg h1, if_neg h2, if_neg h3, if_neg h4, if_pos h5, if_pos h9]
              exact k_zret hx hb hr hlocks hK hP hD hS [0, 1, 2, 3] rfl (by rw [ef] <;> rfl) (by rw [ef] <;> rfl) nb1 d_Ref_products_176
        · refine lv_aload_n hx hb d_Ref_products_104 rfl (lv_at hl 2 rfl) ?_
          refine lv_aload_n hx hb d_Ref_products_105 rfl (lv_at hl 2 rfl) ?_
          refine va_get (D := D) (ci := 11) (v := .int rd) (C := "MappedProcessorModel") (T := T_Ref) (N := 14) hx hb hB iw_Ref hown hK hP 0 rfl rfl 8 (by decide) (hB _ mw_651) (fun _ h9 => h9) rfl d_Ref_products_106 ?_
          refine lv_iload_n hx hb d_Ref_products_109 rfl (lv_at hl 0 rfl) ?_
          refine lv_if_eq (tgt := 124) hx hb d_Ref_products_110 (by decide) (fun (h18 : (rg (ix rb)) = (0 : Int32)) => ?_) (fun (h18 : ¬ (rg (ix rb)) = (0 : Int32)) => ?_)
          · refine lv_iconst (v := (0 : Int32)) hx hb d_Ref_products_124 (by decide) ?_
            refine lv_goto (tgt := 131) hx hb d_Ref_products_125 (by decide) ?_
            let t19 := (f_Ref_result rd (0 : Int32) rg rs rc)
            refine k_cVv (As := [.int rd, .int (0 : Int32)]) (rest := []) (wr := []) (wj := [(aT, .inr (11, [.ref bG, .ref bS, .ref bM, .int rl, .int rk, .int rr, .int re, .int rc, .int rd, .int ra, .int rb, .int rn, .int rf, .int rw])), (bG, .inl (dG, 32, .inl t19.1)), (bS, .inl (dS, 48, .inl t19.2)), (bM, .inl (dM, 16384, .inl rm))]) ⟨hx, hb, hml, hown, hB⟩ (c_Ref_result l D aT bG bS bM dG dS dM rg rs rm rl rk rr re rc rd ra rb rn rf rw rd (0 : Int32) hrd) yl_Ref_result mw_842 hK hN hP hD hS hA [0, 1, 2] [0, 1, 2, 3] [] [0, 1, 2, 3] rfl rfl rfl rfl (by decide +kernel) 0 rfl rfl rfl rfl hl.1 rfl (Nat.le_of_ble_eq_true rfl) ⟨Nat.le_of_ble_eq_true rfl, Nat.le_of_ble_eq_true rfl⟩ d_Ref_products_131 ⟨Nat.le_of_ble_eq_true rfl, Nat.le_of_ble_eq_true rfl⟩ (fun H locs hP hD hS => ?_)
            refine lv_goto (tgt := 175) hx hb d_Ref_products_134 (by decide) ?_
            refine lv_iconst (v := (1 : Int32)) hx hb d_Ref_products_175 (by decide) ?_
            have ef : f_Ref_products p0 rg rs rc rd ra rb = ((1 : Int32), t19.1, t19.2) := by unfold f_Ref_products; try dsimp only; rw [if_neg h1, if_neg h2, if_neg h3, if_pos h4, if_pos h18]
            exact k_zret hx hb hr hlocks hK hP hD hS [0, 1, 2, 3] rfl (by rw [ef] <;> rfl) (by rw [ef] <;> rfl) nb1 d_Ref_products_176
          · refine lv_iload_n hx hb d_Ref_products_113 rfl (lv_at hl 1 rfl) ?_
            refine lv_ldc (v := (-2147483648 : Int32)) hx hb hown (hB _ mw_739) d_Ref_products_114 ?_
            refine lv_icmp_ne (tgt := 128) hx hb d_Ref_products_116 (by decide) (fun (h23 : ¬ (rg (ix ra)) = (-2147483648 : Int32)) => ?_) (fun (h23 : (rg (ix ra)) = (-2147483648 : Int32)) => ?_)
            · refine lv_iload_n hx hb d_Ref_products_128 rfl (lv_at hl 1 rfl) ?_
              refine lv_iload_n hx hb d_Ref_products_129 rfl (lv_at hl 0 rfl) ?_
              refine lv_idiv hx hb d_Ref_products_130 h18 ?_
              let t24 := (f_Ref_result rd ((rg (ix ra)) / (rg (ix rb))) rg rs rc)
              refine k_cVv (As := [.int rd, .int ((rg (ix ra)) / (rg (ix rb)))]) (rest := []) (wr := []) (wj := [(aT, .inr (11, [.ref bG, .ref bS, .ref bM, .int rl, .int rk, .int rr, .int re, .int rc, .int rd, .int ra, .int rb, .int rn, .int rf, .int rw])), (bG, .inl (dG, 32, .inl t24.1)), (bS, .inl (dS, 48, .inl t24.2)), (bM, .inl (dM, 16384, .inl rm))]) ⟨hx, hb, hml, hown, hB⟩ (c_Ref_result l D aT bG bS bM dG dS dM rg rs rm rl rk rr re rc rd ra rb rn rf rw rd ((rg (ix ra)) / (rg (ix rb))) hrd) yl_Ref_result mw_842 hK hN hP hD hS hA [0, 1, 2] [0, 1, 2, 3] [] [0, 1, 2, 3] rfl rfl rfl rfl (by decide +kernel) 0 rfl rfl rfl rfl hl.1 rfl (Nat.le_of_ble_eq_true rfl) ⟨Nat.le_of_ble_eq_true rfl, Nat.le_of_ble_eq_true rfl⟩ d_Ref_products_131 ⟨Nat.le_of_ble_eq_true rfl, Nat.le_of_ble_eq_true rfl⟩ (fun H locs hP hD hS => ?_)
              refine lv_goto (tgt := 175) hx hb d_Ref_products_134 (by decide) ?_
              refine lv_iconst (v := (1 : Int32)) hx hb d_Ref_products_175 (by decide) ?_
              have ef : f_Ref_products p0 rg rs rc rd ra rb = ((1 : Int32), t24.1, t24.2) := by unfold f_Ref_products; try dsimp only; rw [if_neg h1, if_neg h2, if_neg h3, if_pos h4, if_neg h18, if_neg h23]
              exact k_zret hx hb hr hlocks hK hP hD hS [0, 1, 2, 3] rfl (by rw [ef] <;> rfl) (by rw [ef] <;> rfl) nb1 d_Ref_products_176
            · refine lv_iload_n hx hb d_Ref_products_119 rfl (lv_at hl 0 rfl) ?_
              refine lv_iconst (v := (-1 : Int32)) hx hb d_Ref_products_120 (by decide) ?_
              refine lv_icmp_ne (tgt := 128) hx hb d_Ref_products_121 (by decide) (fun (h28 : ¬ (rg (ix rb)) = (-1 : Int32)) => ?_) (fun (h28 : (rg (ix rb)) = (-1 : Int32)) => ?_)
              · refine lv_iload_n hx hb d_Ref_products_128 rfl (lv_at hl 1 rfl) ?_
                refine lv_iload_n hx hb d_Ref_products_129 rfl (lv_at hl 0 rfl) ?_
                refine lv_idiv hx hb d_Ref_products_130 h18 ?_
                let t29 := (f_Ref_result rd ((rg (ix ra)) / (rg (ix rb))) rg rs rc)
                refine k_cVv (As := [.int rd, .int ((rg (ix ra)) / (rg (ix rb)))]) (rest := []) (wr := []) (wj := [(aT, .inr (11, [.ref bG, .ref bS, .ref bM, .int rl, .int rk, .int rr, .int re, .int rc, .int rd, .int ra, .int rb, .int rn, .int rf, .int rw])), (bG, .inl (dG, 32, .inl t29.1)), (bS, .inl (dS, 48, .inl t29.2)), (bM, .inl (dM, 16384, .inl rm))]) ⟨hx, hb, hml, hown, hB⟩ (c_Ref_result l D aT bG bS bM dG dS dM rg rs rm rl rk rr re rc rd ra rb rn rf rw rd ((rg (ix ra)) / (rg (ix rb))) hrd) yl_Ref_result mw_842 hK hN hP hD hS hA [0, 1, 2] [0, 1, 2, 3] [] [0, 1, 2, 3] rfl rfl rfl rfl (by decide +kernel) 0 rfl rfl rfl rfl hl.1 rfl (Nat.le_of_ble_eq_true rfl) ⟨Nat.le_of_ble_eq_true rfl, Nat.le_of_ble_eq_true rfl⟩ d_Ref_products_131 ⟨Nat.le_of_ble_eq_true rfl, Nat.le_of_ble_eq_true rfl⟩ (fun H locs hP hD hS => ?_)
                refine lv_goto (tgt := 175) hx hb d_Ref_products_134 (by decide) ?_
                refine lv_iconst (v := (1 : Int32)) hx hb d_Ref_products_175 (by decide) ?_
                have ef : f_Ref_products p0 rg rs rc rd ra rb = ((1 : Int32), t29.1, t29.2) := by unfold f_Ref_products; try dsimp only; rw [if_neg h1, if_neg h2, if_neg h3, if_pos h4, if_neg h18, if_pos h23, if_neg h28]
                exact k_zret hx hb hr hlocks hK hP hD hS [0, 1, 2, 3] rfl (by rw [ef] <;> rfl) (by rw [ef] <;> rfl) nb1 d_Ref_products_176
              · refine lv_iconst (v := (0 : Int32)) hx hb d_Ref_products_124 (by decide) ?_
                refine lv_goto (tgt := 131) hx hb d_Ref_products_125 (by decide) ?_
                let t30 := (f_Ref_result rd (0 : Int32) rg rs rc)
                refine k_cVv (As := [.int rd, .int (0 : Int32)]) (rest := []) (wr := []) (wj := [(aT, .inr (11, [.ref bG, .ref bS, .ref bM, .int rl, .int rk, .int rr, .int re, .int rc, .int rd, .int ra, .int rb, .int rn, .int rf, .int rw])), (bG, .inl (dG, 32, .inl t30.1)), (bS, .inl (dS, 48, .inl t30.2)), (bM, .inl (dM, 16384, .inl rm))]) ⟨hx, hb, hml, hown, hB⟩ (c_Ref_result l D aT bG bS bM dG dS dM rg rs rm rl rk rr re rc rd ra rb rn rf rw rd (0 : Int32) hrd) yl_Ref_result mw_842 hK hN hP hD hS hA [0, 1, 2] [0, 1, 2, 3] [] [0, 1, 2, 3] rfl rfl rfl rfl (by decide +kernel) 0 rfl rfl rfl rfl hl.1 rfl (Nat.le_of_ble_eq_true rfl) ⟨Nat.le_of_ble_eq_true rfl, Nat.le_of_ble_eq_true rfl⟩ d_Ref_products_131 ⟨Nat.le_of_ble_eq_true rfl, Nat.le_of_ble_eq_true rfl⟩ (fun H locs hP hD hS => ?_)
                refine lv_goto (tgt := 175) hx hb d_Ref_products_134 (by decide) ?_
                refine lv_iconst (v := (1 : Int32)) hx hb d_Ref_products_175 (by decide) ?_
                have ef : f_Ref_products p0 rg rs rc rd ra rb = ((1 : Int32), t30.1, t30.2) := by unfold f_Ref_products; try dsimp only; rw [if_neg h1, if_neg h2, if_neg h3, if_pos h4, if_neg h18, if_pos h23, if_pos h28]
                exact k_zret hx hb hr hlocks hK hP hD hS [0, 1, 2, 3] rfl (by rw [ef] <;> rfl) (by rw [ef] <;> rfl) nb1 d_Ref_products_176
      · refine lv_aload_n hx hb d_Ref_products_73 rfl (lv_at hl 2 rfl) ?_
        refine lv_aload_n hx hb d_Ref_products_74 rfl (lv_at hl 2 rfl) ?_
        refine va_get (D := D) (ci := 11) (v := .int rd) (C := "MappedProcessorModel") (T := T_Ref) (N := 14) hx hb hB iw_Ref hown hK hP 0 rfl rfl 8 (by decide) (hB _ mw_651) (fun _ h9 => h9) rfl d_Ref_products_75 ?_
        refine lv_iload_n hx hb d_Ref_products_78 rfl (lv_at hl 1 rfl) ?_
        refine k_cSl (As := [.int (rg (ix ra))]) (rest := [.int rd, .ref aT]) (wr := [(aT, .inr (11, [.ref bG, .ref bS, .ref bM, .int rl, .int rk, .int rr, .int re, .int rc, .int rd, .int ra, .int rb, .int rn, .int rf, .int rw])), (bG, .inl (dG, 32, .inl rg)), (bS, .inl (dS, 48, .inl rs)), (bM, .inl (dM, 16384, .inl rm))]) (wj := [(aT, .inr (11, [.ref bG, .ref bS, .ref bM, .int rl, .int rk, .int rr, .int re, .int rc, .int rd, .int ra, .int rb, .int rn, .int rf, .int rw])), (bG, .inl (dG, 32, .inl rg)), (bS, .inl (dS, 48, .inl rs)), (bM, .inl (dM, 16384, .inl rm))]) ⟨hx, hb, hml, hown, hB⟩ (c_Ref_unsigned l D (rg (ix ra))) yl_Ref_unsigned mw_769 hK hN hP hD hS hA [] [] [0, 1, 2, 3] [0, 1, 2, 3] rfl rfl rfl rfl (by decide +kernel) rfl hl.1 rfl (Nat.le_of_ble_eq_true rfl) ⟨Nat.le_of_ble_eq_true rfl, Nat.le_of_ble_eq_true rfl⟩ d_Ref_products_79 ⟨Nat.le_of_ble_eq_true rfl, Nat.le_of_ble_eq_true rfl⟩ (fun H locs hP hD hS => ?_)
        refine lv_iload_n hx hb d_Ref_products_82 rfl (lv_at hl 0 rfl) ?_
        refine k_cSl (As := [.int (rg (ix rb))]) (rest := [.long (f_Ref_unsigned (rg (ix ra))), .int rd, .ref aT]) (wr := [(aT, .inr (11, [.ref bG, .ref bS, .ref bM, .int rl, .int rk, .int rr, .int re, .int rc, .int rd, .int ra, .int rb, .int rn, .int rf, .int rw])), (bG, .inl (dG, 32, .inl rg)), (bS, .inl (dS, 48, .inl rs)), (bM, .inl (dM, 16384, .inl rm))]) (wj := [(aT, .inr (11, [.ref bG, .ref bS, .ref bM, .int rl, .int rk, .int rr, .int re, .int rc, .int rd, .int ra, .int rb, .int rn, .int rf, .int rw])), (bG, .inl (dG, 32, .inl rg)), (bS, .inl (dS, 48, .inl rs)), (bM, .inl (dM, 16384, .inl rm))]) ⟨hx, hb, hml, hown, hB⟩ (c_Ref_unsigned l D (rg (ix rb))) yl_Ref_unsigned mw_769 hK hN hP hD hS hA [] [] [0, 1, 2, 3] [0, 1, 2, 3] rfl rfl rfl rfl (by decide +kernel) rfl hl.1 rfl (Nat.le_of_ble_eq_true rfl) ⟨Nat.le_of_ble_eq_true rfl, Nat.le_of_ble_eq_true rfl⟩ d_Ref_products_83 ⟨Nat.le_of_ble_eq_true rfl, Nat.le_of_ble_eq_true rfl⟩ (fun H locs hP hD hS => ?_)
        refine lv_lmul hx hb d_Ref_products_86 ?_
        refine lv_bipush (v := (32 : Int32)) hx hb d_Ref_products_87 (by decide) ?_
        refine lv_lushr (v := (lush ((f_Ref_unsigned (rg (ix ra))) * (f_Ref_unsigned (rg (ix rb)))) (32 : Int32))) hx hb d_Ref_products_89 rfl ?_
        refine lv_l2i (v := ((lush ((f_Ref_unsigned (rg (ix ra))) * (f_Ref_unsigned (rg (ix rb)))) (32 : Int32)).toInt32)) hx hb d_Ref_products_90 rfl ?_
        let t31 := (f_Ref_result rd ((lush ((f_Ref_unsigned (rg (ix ra))) * (f_Ref_unsigned (rg (ix rb)))) (32 : Int32)).toInt32) rg rs rc)
        refine k_cVv (As := [.int rd, .int ((lush ((f_Ref_unsigned (rg (ix ra))) * (f_Ref_unsigned (rg (ix rb)))) (32 : Int32)).toInt32)]) (rest := []) (wr := []) (wj := [(aT, .inr (11, [.ref bG, .ref bS, .ref bM, .int rl, .int rk, .int rr, .int re, .int rc, .int rd, .int ra, .int rb, .int rn, .int rf, .int rw])), (bG, .inl (dG, 32, .inl t31.1)), (bS, .inl (dS, 48, .inl t31.2)), (bM, .inl (dM, 16384, .inl rm))]) ⟨hx, hb, hml, hown, hB⟩ (c_Ref_result l D aT bG bS bM dG dS dM rg rs rm rl rk rr re rc rd ra rb rn rf rw rd ((lush ((f_Ref_unsigned (rg (ix ra))) * (f_Ref_unsigned (rg (ix rb)))) (32 : Int32)).toInt32) hrd) yl_Ref_result mw_842 hK hN hP hD hS hA [0, 1, 2] [0, 1, 2, 3] [] [0, 1, 2, 3] rfl rfl rfl rfl (by decide +kernel) 0 rfl rfl rfl rfl hl.1 rfl (Nat.le_of_ble_eq_true rfl) ⟨Nat.le_of_ble_eq_true rfl, Nat.le_of_ble_eq_true rfl⟩ d_Ref_products_91 ⟨Nat.le_of_ble_eq_true rfl, Nat.le_of_ble_eq_true rfl⟩ (fun H locs hP hD hS => ?_)
        refine lv_goto (tgt := 175) hx hb d_Ref_products_94 (by decide) ?_
        refine lv_iconst (v := (1 : Int32)) hx hb d_Ref_products_175 (by decide) ?_
        have ef : f_Ref_products p0 rg rs rc rd ra rb = ((1 : Int32), t31.1, t31.2) := by unfold f_Ref_products; try dsimp only; rw [if_neg h1, if_neg h2, if_pos h3]
        exact k_zret hx hb hr hlocks hK hP hD hS [0, 1, 2, 3] rfl (by rw [ef] <;> rfl) (by rw [ef] <;> rfl) nb1 d_Ref_products_176
    · refine lv_aload_n hx hb d_Ref_products_47 rfl (lv_at hl 2 rfl) ?_
      refine lv_aload_n hx hb d_Ref_products_48 rfl (lv_at hl 2 rfl) ?_
      refine va_get (D := D) (ci := 11) (v := .int rd) (C := "MappedProcessorModel") (T := T_Ref) (N := 14) hx hb hB iw_Ref hown hK hP 0 rfl rfl 8 (by decide) (hB _ mw_651) (fun _ h9 => h9) rfl d_Ref_products_49 ?_
      refine lv_iload_n hx hb d_Ref_products_52 rfl (lv_at hl 1 rfl) ?_
      refine lv_i2l (v := ((rg (ix ra)).toInt64)) hx hb d_Ref_products_53 rfl ?_
      refine lv_iload_n hx hb d_Ref_products_54 rfl (lv_at hl 0 rfl) ?_
      refine lv_i2l (v := ((rg (ix rb)).toInt64)) hx hb d_Ref_products_55 rfl ?_
      refine lv_lmul hx hb d_Ref_products_56 ?_
      refine lv_bipush (v := (32 : Int32)) hx hb d_Ref_products_57 (by decide) ?_
      refine lv_lshr (v := (lshr (((rg (ix ra)).toInt64) * ((rg (ix rb)).toInt64)) (32 : Int32))) hx hb d_Ref_products_59 rfl ?_
      refine lv_l2i (v := ((lshr (((rg (ix ra)).toInt64) * ((rg (ix rb)).toInt64)) (32 : Int32)).toInt32)) hx hb d_Ref_products_60 rfl ?_
      let t32 := (f_Ref_result rd ((lshr (((rg (ix ra)).toInt64) * ((rg (ix rb)).toInt64)) (32 : Int32)).toInt32) rg rs rc)
      refine k_cVv (As := [.int rd, .int ((lshr (((rg (ix ra)).toInt64) * ((rg (ix rb)).toInt64)) (32 : Int32)).toInt32)]) (rest := []) (wr := []) (wj := [(aT, .inr (11, [.ref bG, .ref bS, .ref bM, .int rl, .int rk, .int rr, .int re, .int rc, .int rd, .int ra, .int rb, .int rn, .int rf, .int rw])), (bG, .inl (dG, 32, .inl t32.1)), (bS, .inl (dS, 48, .inl t32.2)), (bM, .inl (dM, 16384, .inl rm))]) ⟨hx, hb, hml, hown, hB⟩ (c_Ref_result l D aT bG bS bM dG dS dM rg rs rm rl rk rr re rc rd ra rb rn rf rw rd ((lshr (((rg (ix ra)).toInt64) * ((rg (ix rb)).toInt64)) (32 : Int32)).toInt32) hrd) yl_Ref_result mw_842 hK hN hP hD hS hA [0, 1, 2] [0, 1, 2, 3] [] [0, 1, 2, 3] rfl rfl rfl rfl (by decide +kernel) 0 rfl rfl rfl rfl hl.1 rfl (Nat.le_of_ble_eq_true rfl) ⟨Nat.le_of_ble_eq_true rfl, Nat.le_of_ble_eq_true rfl⟩ d_Ref_products_61 ⟨Nat.le_of_ble_eq_true rfl, Nat.le_of_ble_eq_true rfl⟩ (fun H locs hP hD hS => ?_)
      refine lv_goto (tgt := 175) hx hb d_Ref_products_64 (by decide) ?_
      refine lv_iconst (v := (1 : Int32)) hx hb d_Ref_products_175 (by decide) ?_
      have ef : f_Ref_products p0 rg rs rc rd ra rb = ((1 : Int32), t32.1, t32.2) := by unfold f_Ref_products; try dsimp only; rw [if_neg h1, if_pos h2]
      exact k_zret hx hb hr hlocks hK hP hD hS [0, 1, 2, 3] rfl (by rw [ef] <;> rfl) (by rw [ef] <;> rfl) nb1 d_Ref_products_176
  · refine lv_aload_n hx hb d_Ref_products_27 rfl (lv_at hl 2 rfl) ?_
    refine lv_aload_n hx hb d_Ref_products_28 rfl (lv_at hl 2 rfl) ?_
    refine va_get (D := D) (ci := 11) (v := .int rd) (C := "MappedProcessorModel") (T := T_Ref) (N := 14) hx hb hB iw_Ref hown hK hP 0 rfl rfl 8 (by decide) (hB _ mw_651) (fun _ h9 => h9) rfl d_Ref_products_29 ?_
    refine lv_iload_n hx hb d_Ref_products_32 rfl (lv_at hl 1 rfl) ?_
    refine lv_iload_n hx hb d_Ref_products_33 rfl (lv_at hl 0 rfl) ?_
    refine lv_imul hx hb d_Ref_products_34 ?_
    let t33 := (f_Ref_result rd ((rg (ix ra)) * (rg (ix rb))) rg rs rc)
    refine k_cVv (As := [.int rd, .int ((rg (ix ra)) * (rg (ix rb)))]) (rest := []) (wr := []) (wj := [(aT, .inr (11, [.ref bG, .ref bS, .ref bM, .int rl, .int rk, .int rr, .int re, .int rc, .int rd, .int ra, .int rb, .int rn, .int rf, .int rw])), (bG, .inl (dG, 32, .inl t33.1)), (bS, .inl (dS, 48, .inl t33.2)), (bM, .inl (dM, 16384, .inl rm))]) ⟨hx, hb, hml, hown, hB⟩ (c_Ref_result l D aT bG bS bM dG dS dM rg rs rm rl rk rr re rc rd ra rb rn rf rw rd ((rg (ix ra)) * (rg (ix rb))) hrd) yl_Ref_result mw_842 hK hN hP hD hS hA [0, 1, 2] [0, 1, 2, 3] [] [0, 1, 2, 3] rfl rfl rfl rfl (by decide +kernel) 0 rfl rfl rfl rfl hl.1 rfl (Nat.le_of_ble_eq_true rfl) ⟨Nat.le_of_ble_eq_true rfl, Nat.le_of_ble_eq_true rfl⟩ d_Ref_products_35 ⟨Nat.le_of_ble_eq_true rfl, Nat.le_of_ble_eq_true rfl⟩ (fun H locs hP hD hS => ?_)
    refine lv_goto (tgt := 175) hx hb d_Ref_products_38 (by decide) ?_
    refine lv_iconst (v := (1 : Int32)) hx hb d_Ref_products_175 (by decide) ?_
    have ef : f_Ref_products p0 rg rs rc rd ra rb = ((1 : Int32), t33.1, t33.2) := by unfold f_Ref_products; try dsimp only; rw [if_pos h1]
    exact k_zret hx hb hr hlocks hK hP hD hS [0, 1, 2, 3] rfl (by rw [ef] <;> rfl) (by rw [ef] <;> rfl) nb1 d_Ref_products_176
