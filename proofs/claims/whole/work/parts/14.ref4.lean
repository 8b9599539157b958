/-! MappedProcessorModel.privileged(I)V -/
theorem d_Ref_privileged_0 : decode b_Ref_privileged 0 = .ok (.iload_n 1, 1) := by decide +kernel
theorem d_Ref_privileged_1 : decode b_Ref_privileged 1 = .ok (.bipush 83, 2) := by decide +kernel
theorem d_Ref_privileged_3 : decode b_Ref_privileged 3 = .ok (.if_icmp .ne 21, 3) := by decide +kernel
theorem d_Ref_privileged_6 : decode b_Ref_privileged 6 = .ok (.aload_n 0, 1) := by decide +kernel
theorem d_Ref_privileged_7 : decode b_Ref_privileged 7 = .ok (.getfield 7, 3) := by decide +kernel
theorem d_Ref_privileged_10 : decode b_Ref_privileged 10 = .ok (.aload_n 0, 1) := by decide +kernel
theorem d_Ref_privileged_11 : decode b_Ref_privileged 11 = .ok (.getfield 82, 3) := by decide +kernel
theorem d_Ref_privileged_14 : decode b_Ref_privileged 14 = .ok (.aload_n 0, 1) := by decide +kernel
theorem d_Ref_privileged_15 : decode b_Ref_privileged 15 = .ok (.getfield 13, 3) := by decide +kernel
theorem d_Ref_privileged_18 : decode b_Ref_privileged 18 = .ok (.iconst 1, 1) := by decide +kernel
theorem d_Ref_privileged_19 : decode b_Ref_privileged 19 = .ok (.iaload, 1) := by decide +kernel
theorem d_Ref_privileged_20 : decode b_Ref_privileged 20 = .ok (.iastore, 1) := by decide +kernel
theorem d_Ref_privileged_21 : decode b_Ref_privileged 21 = .ok (.goto 89, 3) := by decide +kernel
theorem d_Ref_privileged_24 : decode b_Ref_privileged 24 = .ok (.iload_n 1, 1) := by decide +kernel
theorem d_Ref_privileged_25 : decode b_Ref_privileged 25 = .ok (.sipush 146, 3) := by decide +kernel
theorem d_Ref_privileged_28 : decode b_Ref_privileged 28 = .ok (.if_icmp .ne 24, 3) := by decide +kernel
theorem d_Ref_privileged_31 : decode b_Ref_privileged 31 = .ok (.aload_n 0, 1) := by decide +kernel
theorem d_Ref_privileged_32 : decode b_Ref_privileged 32 = .ok (.getfield 13, 3) := by decide +kernel
theorem d_Ref_privileged_35 : decode b_Ref_privileged 35 = .ok (.iconst 1, 1) := by decide +kernel
theorem d_Ref_privileged_36 : decode b_Ref_privileged 36 = .ok (.aload_n 0, 1) := by decide +kernel
theorem d_Ref_privileged_37 : decode b_Ref_privileged 37 = .ok (.getfield 7, 3) := by decide +kernel
theorem d_Ref_privileged_40 : decode b_Ref_privileged 40 = .ok (.aload_n 0, 1) := by decide +kernel
theorem d_Ref_privileged_41 : decode b_Ref_privileged 41 = .ok (.getfield 82, 3) := by decide +kernel
theorem d_Ref_privileged_44 : decode b_Ref_privileged 44 = .ok (.iaload, 1) := by decide +kernel
theorem d_Ref_privileged_45 : decode b_Ref_privileged 45 = .ok (.ldc 42, 2) := by decide +kernel
theorem d_Ref_privileged_47 : decode b_Ref_privileged 47 = .ok (.iand, 1) := by decide +kernel
theorem d_Ref_privileged_48 : decode b_Ref_privileged 48 = .ok (.iastore, 1) := by decide +kernel
theorem d_Ref_privileged_49 : decode b_Ref_privileged 49 = .ok (.goto 61, 3) := by decide +kernel
theorem d_Ref_privileged_52 : decode b_Ref_privileged 52 = .ok (.iload_n 1, 1) := by decide +kernel
theorem d_Ref_privileged_53 : decode b_Ref_privileged 53 = .ok (.sipush 210, 3) := by decide +kernel
theorem d_Ref_privileged_56 : decode b_Ref_privileged 56 = .ok (.if_icmp .ne 30, 3) := by decide +kernel
theorem d_Ref_privileged_59 : decode b_Ref_privileged 59 = .ok (.aload_n 0, 1) := by decide +kernel
theorem d_Ref_privileged_60 : decode b_Ref_privileged 60 = .ok (.getfield 13, 3) := by decide +kernel
theorem d_Ref_privileged_63 : decode b_Ref_privileged 63 = .ok (.bipush 32, 2) := by decide +kernel
theorem d_Ref_privileged_65 : decode b_Ref_privileged 65 = .ok (.aload_n 0, 1) := by decide +kernel
theorem d_Ref_privileged_66 : decode b_Ref_privileged 66 = .ok (.getfield 85, 3) := by decide +kernel
theorem d_Ref_privileged_69 : decode b_Ref_privileged 69 = .ok (.bipush 15, 2) := by decide +kernel
theorem d_Ref_privileged_71 : decode b_Ref_privileged 71 = .ok (.iand, 1) := by decide +kernel
theorem d_Ref_privileged_72 : decode b_Ref_privileged 72 = .ok (.iadd, 1) := by decide +kernel
theorem d_Ref_privileged_73 : decode b_Ref_privileged 73 = .ok (.aload_n 0, 1) := by decide +kernel
theorem d_Ref_privileged_74 : decode b_Ref_privileged 74 = .ok (.getfield 7, 3) := by decide +kernel
theorem d_Ref_privileged_77 : decode b_Ref_privileged 77 = .ok (.aload_n 0, 1) := by decide +kernel
theorem d_Ref_privileged_78 : decode b_Ref_privileged 78 = .ok (.getfield 82, 3) := by decide +kernel
theorem d_Ref_privileged_81 : decode b_Ref_privileged 81 = .ok (.iaload, 1) := by decide +kernel
theorem d_Ref_privileged_82 : decode b_Ref_privileged 82 = .ok (.iastore, 1) := by decide +kernel
theorem d_Ref_privileged_83 : decode b_Ref_privileged 83 = .ok (.goto 27, 3) := by decide +kernel
theorem d_Ref_privileged_86 : decode b_Ref_privileged 86 = .ok (.aload_n 0, 1) := by decide +kernel
theorem d_Ref_privileged_87 : decode b_Ref_privileged 87 = .ok (.getfield 7, 3) := by decide +kernel
theorem d_Ref_privileged_90 : decode b_Ref_privileged 90 = .ok (.aload_n 0, 1) := by decide +kernel
theorem d_Ref_privileged_91 : decode b_Ref_privileged 91 = .ok (.getfield 82, 3) := by decide +kernel
theorem d_Ref_privileged_94 : decode b_Ref_privileged 94 = .ok (.aload_n 0, 1) := by decide +kernel
theorem d_Ref_privileged_95 : decode b_Ref_privileged 95 = .ok (.getfield 13, 3) := by decide +kernel
theorem d_Ref_privileged_98 : decode b_Ref_privileged 98 = .ok (.bipush 32, 2) := by decide +kernel
theorem d_Ref_privileged_100 : decode b_Ref_privileged 100 = .ok (.aload_n 0, 1) := by decide +kernel
theorem d_Ref_privileged_101 : decode b_Ref_privileged 101 = .ok (.getfield 85, 3) := by decide +kernel
theorem d_Ref_privileged_104 : decode b_Ref_privileged 104 = .ok (.bipush 15, 2) := by decide +kernel
theorem d_Ref_privileged_106 : decode b_Ref_privileged 106 = .ok (.iand, 1) := by decide +kernel
theorem d_Ref_privileged_107 : decode b_Ref_privileged 107 = .ok (.iadd, 1) := by decide +kernel
theorem d_Ref_privileged_108 : decode b_Ref_privileged 108 = .ok (.iaload, 1) := by decide +kernel
theorem d_Ref_privileged_109 : decode b_Ref_privileged 109 = .ok (.iastore, 1) := by decide +kernel
theorem d_Ref_privileged_110 : decode b_Ref_privileged 110 = .ok (.return_, 1) := by decide +kernel
def f_Ref_privileged (p0 : Int32) (rg : Nat → Int32) (rs : Nat → Int32) (rd : Int32) (ra : Int32) : (Nat → Int32) × (Nat → Int32) :=
  if p0 = (83 : Int32) then
    ((upd rg (ix rd) (rs 1)), rs)
  else
    if p0 = (146 : Int32) then
      (rg, (upd rs 1 ((rg (ix rd)) &&& (65535 : Int32))))
    else
      if p0 = (210 : Int32) then
        (rg, (upd rs (ix ((32 : Int32) + (ra &&& (15 : Int32)))) (rg (ix rd))))
      else
        ((upd rg (ix rd) (rs (ix ((32 : Int32) + (ra &&& (15 : Int32)))))), rs)
set_option maxHeartbeats 4000000 in
set_option maxRecDepth 100000 in
theorem c_Ref_privileged (l : Launch) (D : va_G) (aT bG bS bM : Nat) (dG dS dM : ClassId) (rg : Nat → Int32) (rs : Nat → Int32) (rm : Nat → Int32) (rl : Int32) (rk : Int32) (rr : Int32) (re : Int32) (rc : Int32) (rd : Int32) (ra : Int32) (rb : Int32) (rn : Int32) (rf : Int32) (rw : Int32) (p0 : Int32) (hra : vp_in ra 32) (hrd : vp_in rd 32) : kMv l y_Ref_privileged b_Ref_privileged 2 none 0 0 D kCl [(dG, .int), (dS, .int), (dM, .int)] [.ref aT, .int p0] [(aT, .inr (11, [.ref bG, .ref bS, .ref bM, .int rl, .int rk, .int rr, .int re, .int rc, .int rd, .int ra, .int rb, .int rn, .int rf, .int rw])), (bG, .inl (dG, 32, .inl rg)), (bS, .inl (dS, 48, .inl rs)), (bM, .inl (dM, 16384, .inl rm))] [(aT, .inr (11, [.ref bG, .ref bS, .ref bM, .int rl, .int rk, .int rr, .int re, .int rc, .int rd, .int ra, .int rb, .int rn, .int rf, .int rw])), (bG, .inl (dG, 32, .inl (f_Ref_privileged p0 rg rs rd ra).1)), (bS, .inl (dS, 48, .inl (f_Ref_privileged p0 rg rs rd ra).2)), (bM, .inl (dM, 16384, .inl rm))] := by
  refine k_entry (Qc := fun A => kQv D kCl [(dG, .int), (dS, .int), (dM, .int)] [(aT, .inr (11, [.ref bG, .ref bS, .ref bM, .int rl, .int rk, .int rr, .int re, .int rc, .int rd, .int ra, .int rb, .int rn, .int rf, .int rw])), (bG, .inl (dG, 32, .inl (f_Ref_privileged p0 rg rs rd ra).1)), (bS, .inl (dS, 48, .inl (f_Ref_privileged p0 rg rs rd ra).2)), (bM, .inl (dM, 16384, .inl rm))] A) (lv := [(0, .ref aT), (1, .int p0)]) (by decide) (Nat.le_of_ble_eq_true rfl) rfl ?_
  intro p e s m below meth c A ls hx hb hr hml hB hown hlocks hin hA hK hN hP hD hS hl
  have hown : s.vm.findClass "MappedProcessorModel" = some m.cls := hown
  refine lv_iload_n hx hb d_Ref_privileged_0 rfl (lv_at hl 1 rfl) ?_
  refine lv_bipush (v := (83 : Int32)) hx hb d_Ref_privileged_1 (by decide) ?_
  refine lv_icmp_ne (tgt := 24) hx hb d_Ref_privileged_3 (by decide) (fun (h10 : ¬ p0 = (83 : Int32)) => ?_) (fun (h10 : p0 = (83 : Int32)) => ?_)
  · refine lv_iload_n hx hb d_Ref_privileged_24 rfl (lv_at hl 1 rfl) ?_
    refine lv_sipush (v := (146 : Int32)) hx hb d_Ref_privileged_25 (by decide) ?_
    refine lv_icmp_ne (tgt := 52) hx hb d_Ref_privileged_28 (by decide) (fun (h17 : ¬ p0 = (146 : Int32)) => ?_) (fun (h17 : p0 = (146 : Int32)) => ?_)
    · refine lv_iload_n hx hb d_Ref_privileged_52 rfl (lv_at hl 1 rfl) ?_
      refine lv_sipush (v := (210 : Int32)) hx hb d_Ref_privileged_53 (by decide) ?_
      refine lv_icmp_ne (tgt := 86) hx hb d_Ref_privileged_56 (by decide) (fun (h21 : ¬ p0 = (210 : Int32)) => ?_) (fun (h21 : p0 = (210 : Int32)) => ?_)
      · refine lv_aload_n hx hb d_Ref_privileged_86 rfl (lv_at hl 0 rfl) ?_
        refine va_get (D := D) (ci := 11) (v := .ref bG) (C := "MappedProcessorModel") (T := T_Ref) (N := 14) hx hb hB iw_Ref hown hK hP 0 rfl rfl 0 (by decide) (hB _ mw_643) (fun _ h9 => h9) rfl d_Ref_privileged_87 ?_
        refine lv_aload_n hx hb d_Ref_privileged_90 rfl (lv_at hl 0 rfl) ?_
        refine va_get (D := D) (ci := 11) (v := .int rd) (C := "MappedProcessorModel") (T := T_Ref) (N := 14) hx hb hB iw_Ref hown hK hP 0 rfl rfl 8 (by decide) (hB _ mw_651) (fun _ h9 => h9) rfl d_Ref_privileged_91 ?_
        refine lv_aload_n hx hb d_Ref_privileged_94 rfl (lv_at hl 0 rfl) ?_
        refine va_get (D := D) (ci := 11) (v := .ref bS) (C := "MappedProcessorModel") (T := T_Ref) (N := 14) hx hb hB iw_Ref hown hK hP 0 rfl rfl 1 (by decide) (hB _ mw_644) (fun _ h9 => h9) rfl d_Ref_privileged_95 ?_
        refine lv_bipush (v := (32 : Int32)) hx hb d_Ref_privileged_98 (by decide) ?_
        refine lv_aload_n hx hb d_Ref_privileged_100 rfl (lv_at hl 0 rfl) ?_
        refine va_get (D := D) (ci := 11) (v := .int ra) (C := "MappedProcessorModel") (T := T_Ref) (N := 14) hx hb hB iw_Ref hown hK hP 0 rfl rfl 9 (by decide) (hB _ mw_652) (fun _ h9 => h9) rfl d_Ref_privileged_101 ?_
        refine lv_bipush (v := (15 : Int32)) hx hb d_Ref_privileged_104 (by decide) ?_
        refine lv_iand hx hb d_Ref_privileged_106 ?_
        refine lv_iadd hx hb d_Ref_privileged_107 ?_
        refine k_iald (j := (ix ((32 : Int32) + (ra &&& (15 : Int32))))) hx hb hK hP 2 1 rfl rfl rfl (ix_seg _) d_Ref_privileged_108 ?_
        refine k_iast (j := (ix rd)) hx hb hK hP hD hS 1 0 rfl rfl rfl hrd d_Ref_privileged_109 (fun H locs hP hD hS => ?_)
        have hP : va_P D kCl [(aT, .inr (11, [.ref bG, .ref bS, .ref bM, .int rl, .int rk, .int rr, .int re, .int rc, .int rd, .int ra, .int rb, .int rn, .int rf, .int rw])), (bG, .inl (dG, 32, .inl (upd rg (ix rd) (rs (ix ((32 : Int32) + (ra &&& (15 : Int32)))))))), (bS, .inl (dS, 48, .inl rs)), (bM, .inl (dM, 16384, .inl rm))] H := hP
        have hD : va_D A [(aT, .inr (11, [.ref bG, .ref bS, .ref bM, .int rl, .int rk, .int rr, .int re, .int rc, .int rd, .int ra, .int rb, .int rn, .int rf, .int rw])), (bG, .inl (dG, 32, .inl (upd rg (ix rd) (rs (ix ((32 : Int32) + (ra &&& (15 : Int32)))))))), (bS, .inl (dS, 48, .inl rs)), (bM, .inl (dM, 16384, .inl rm))] := hD
        have ef : f_Ref_privileged p0 rg rs rd ra = ((upd rg (ix rd) (rs (ix ((32 : Int32) + (ra &&& (15 : Int32)))))), rs) := by unfold f_Ref_privileged; rw [if_neg h10, if_neg h17, if_neg h21]
        exact k_vret hx hb hr hlocks hK hP hD hS [0, 1, 2, 3] rfl (by rw [ef] <;> rfl) d_Ref_privileged_110
      · refine lv_aload_n hx hb d_Ref_privileged_59 rfl (lv_at hl 0 rfl) ?_
        refine va_get (D := D) (ci := 11) (v := .ref bS) (C := "MappedProcessorModel") (T := T_Ref) (N := 14) hx hb hB iw_Ref hown hK hP 0 rfl rfl 1 (by decide) (hB _ mw_644) (fun _ h9 => h9) rfl d_Ref_privileged_60 ?_
        refine lv_bipush (v := (32 : Int32)) hx hb d_Ref_privileged_63 (by decide) ?_
        refine lv_aload_n hx hb d_Ref_privileged_65 rfl (lv_at hl 0 rfl) ?_
        refine va_get (D := D) (ci := 11) (v := .int ra) (C := "MappedProcessorModel") (T := T_Ref) (N := 14) hx hb hB iw_Ref hown hK hP 0 rfl rfl 9 (by decide) (hB _ mw_652) (fun _ h9 => h9) rfl d_Ref_privileged_66 ?_
        refine lv_bipush (v := (15 : Int32)) hx hb d_Ref_privileged_69 (by decide) ?_
        refine lv_iand hx hb d_Ref_privileged_71 ?_
        refine lv_iadd hx hb d_Ref_privileged_72 ?_
        refine lv_aload_n hx hb d_Ref_privileged_73 rfl (lv_at hl 0 rfl) ?_
        refine va_get (D := D) (ci := 11) (v := .ref bG) (C := "MappedProcessorModel") (T := T_Ref) (N := 14) hx hb hB iw_Ref hown hK hP 0 rfl rfl 0 (by decide) (hB _ mw_643) (fun _ h9 => h9) rfl d_Ref_privileged_74 ?_
        refine lv_aload_n hx hb d_Ref_privileged_77 rfl (lv_at hl 0 rfl) ?_
        refine va_get (D := D) (ci := 11) (v := .int rd) (C := "MappedProcessorModel") (T := T_Ref) (N := 14) hx hb hB iw_Ref hown hK hP 0 rfl rfl 8 (by decide) (hB _ mw_651) (fun _ h9 => h9) rfl d_Ref_privileged_78 ?_
        refine k_iald (j := (ix rd)) hx hb hK hP 1 0 rfl rfl rfl hrd d_Ref_privileged_81 ?_
        refine k_iast (j := (ix ((32 : Int32) + (ra &&& (15 : Int32))))) hx hb hK hP hD hS 2 1 rfl rfl rfl (ix_seg _) d_Ref_privileged_82 (fun H locs hP hD hS => ?_)
        have hP : va_P D kCl [(aT, .inr (11, [.ref bG, .ref bS, .ref bM, .int rl, .int rk, .int rr, .int re, .int rc, .int rd, .int ra, .int rb, .int rn, .int rf, .int rw])), (bG, .inl (dG, 32, .inl rg)), (bS, .inl (dS, 48, .inl (upd rs (ix ((32 : Int32) + (ra &&& (15 : Int32)))) (rg (ix rd))))), (bM, .inl (dM, 16384, .inl rm))] H := hP
        have hD : va_D A [(aT, .inr (11, [.ref bG, .ref bS, .ref bM, .int rl, .int rk, .int rr, .int re, .int rc, .int rd, .int ra, .int rb, .int rn, .int rf, .int rw])), (bG, .inl (dG, 32, .inl rg)), (bS, .inl (dS, 48, .inl (upd rs (ix ((32 : Int32) + (ra &&& (15 : Int32)))) (rg (ix rd))))), (bM, .inl (dM, 16384, .inl rm))] := hD
        refine lv_goto (tgt := 110) hx hb d_Ref_privileged_83 (by decide) ?_
        have ef : f_Ref_privileged p0 rg rs rd ra = (rg, (upd rs (ix ((32 : Int32) + (ra &&& (15 : Int32)))) (rg (ix rd)))) := by unfold f_Ref_privileged; rw [if_neg h10, if_neg h17, if_pos h21]
        exact k_vret hx hb hr hlocks hK hP hD hS [0, 1, 2, 3] rfl (by rw [ef] <;> rfl) d_Ref_privileged_110
    · refine lv_aload_n hx hb d_Ref_privileged_31 rfl (lv_at hl 0 rfl) ?_
      refine va_get (D := D) (ci := 11) (v := .ref bS) (C := "MappedProcessorModel") (T := T_Ref) (N := 14) hx hb hB iw_Ref hown hK hP 0 rfl rfl 1 (by decide) (hB _ mw_644) (fun _ h9 => h9) rfl d_Ref_privileged_32 ?_
      refine lv_iconst (v := (1 : Int32)) hx hb d_Ref_privileged_35 (by decide) ?_
      refine lv_aload_n hx hb d_Ref_privileged_36 rfl (lv_at hl 0 rfl) ?_
      refine va_get (D := D) (ci := 11) (v := .ref bG) (C := "MappedProcessorModel") (T := T_Ref) (N := 14) hx hb hB iw_Ref hown hK hP 0 rfl rfl 0 (by decide) (hB _ mw_643) (fun _ h9 => h9) rfl d_Ref_privileged_37 ?_
      refine lv_aload_n hx hb d_Ref_privileged_40 rfl (lv_at hl 0 rfl) ?_
      refine va_get (D := D) (ci := 11) (v := .int rd) (C := "MappedProcessorModel") (T := T_Ref) (N := 14) hx hb hB iw_Ref hown hK hP 0 rfl rfl 8 (by decide) (hB _ mw_651) (fun _ h9 => h9) rfl d_Ref_privileged_41 ?_
      refine k_iald (j := (ix rd)) hx hb hK hP 1 0 rfl rfl rfl hrd d_Ref_privileged_44 ?_
      refine lv_ldc (v := (65535 : Int32)) hx hb hown (hB _ mw_737) d_Ref_privileged_45 ?_
      refine lv_iand hx hb d_Ref_privileged_47 ?_
      refine k_iast (j := 1) hx hb hK hP hD hS 2 1 rfl rfl (by decide) (by unfold vp_in; decide) d_Ref_privileged_48 (fun H locs hP hD hS => ?_)
      have hP : va_P D kCl [(aT, .inr (11, [.ref bG, .ref bS, .ref bM, .int rl, .int rk, .int rr, .int re, .int rc, .int rd, .int ra, .int rb, .int rn, .int rf, .int rw])), (bG, .inl (dG, 32, .inl rg)), (bS, .inl (dS, 48, .inl (upd rs 1 ((rg (ix rd)) &&& (65535 : Int32))))), (bM, .inl (dM, 16384, .inl rm))] H := hP
      have hD : va_D A [(aT, .inr (11, [.ref bG, .ref bS, .ref bM, .int rl, .int rk, .int rr, .int re, .int rc, .int rd, .int ra, .int rb, .int rn, .int rf, .int rw])), (bG, .inl (dG, 32, .inl rg)), (bS, .inl (dS, 48, .inl (upd rs 1 ((rg (ix rd)) &&& (65535 : Int32))))), (bM, .inl (dM, 16384, .inl rm))] := hD
      refine lv_goto (tgt := 110) hx hb d_Ref_privileged_49 (by decide) ?_
      have ef : f_Ref_privileged p0 rg rs rd ra = (rg, (upd rs 1 ((rg (ix rd)) &&& (65535 : Int32)))) := by unfold f_Ref_privileged; rw [if_neg h10, if_pos h17]
      exact k_vret hx hb hr hlocks hK hP hD hS [0, 1, 2, 3] rfl (by rw [ef] <;> rfl) d_Ref_privileged_110
  · refine lv_aload_n hx hb d_Ref_privileged_6 rfl (lv_at hl 0 rfl) ?_
    refine va_get (D := D) (ci := 11) (v := .ref bG) (C := "MappedProcessorModel") (T := T_Ref) (N := 14) hx hb hB iw_Ref hown hK hP 0 rfl rfl 0 (by decide) (hB _ mw_643) (fun _ h9 => h9) rfl d_Ref_privileged_7 ?_
    refine lv_aload_n hx hb d_Ref_privileged_10 rfl (lv_at hl 0 rfl) ?_
    refine va_get (D := D) (ci := 11) (v := .int rd) (C := "MappedProcessorModel") (T := T_Ref) (N := 14) hx hb hB iw_Ref hown hK hP 0 rfl rfl 8 (by decide) (hB _ mw_651) (fun _ h9 => h9) rfl d_Ref_privileged_11 ?_
    refine lv_aload_n hx hb d_Ref_privileged_14 rfl (lv_at hl 0 rfl) ?_
    refine va_get (D := D) (ci := 11) (v := .ref bS) (C := "MappedProcessorModel") (T := T_Ref) (N := 14) hx hb hB iw_Ref hown hK hP 0 rfl rfl 1 (by decide) (hB _ mw_644) (fun _ h9 => h9) rfl d_Ref_privileged_15 ?_
    refine lv_iconst (v := (1 : Int32)) hx hb d_Ref_privileged_18 (by decide) ?_
    refine k_iald (j := 1) hx hb hK hP 2 1 rfl rfl (by decide) (by unfold vp_in; decide) d_Ref_privileged_19 ?_
    refine k_iast (j := (ix rd)) hx hb hK hP hD hS 1 0 rfl rfl rfl hrd d_Ref_privileged_20 (fun H locs hP hD hS => ?_)
    have hP : va_P D kCl [(aT, .inr (11, [.ref bG, .ref bS, .ref bM, .int rl, .int rk, .int rr, .int re, .int rc, .int rd, .int ra, .int rb, .int rn, .int rf, .int rw])), (bG, .inl (dG, 32, .inl (upd rg (ix rd) (rs 1)))), (bS, .inl (dS, 48, .inl rs)), (bM, .inl (dM, 16384, .inl rm))] H := hP
    have hD : va_D A [(aT, .inr (11, [.ref bG, .ref bS, .ref bM, .int rl, .int rk, .int rr, .int re, .int rc, .int rd, .int ra, .int rb, .int rn, .int rf, .int rw])), (bG, .inl (dG, 32, .inl (upd rg (ix rd) (rs 1)))), (bS, .inl (dS, 48, .inl rs)), (bM, .inl (dM, 16384, .inl rm))] := hD
    refine lv_goto (tgt := 110) hx hb d_Ref_privileged_21 (by decide) ?_
    have ef : f_Ref_privileged p0 rg rs rd ra = ((upd rg (ix rd) (rs 1)), rs) := by unfold f_Ref_privileged; rw [if_pos h10]
    exact k_vret hx hb hr hlocks hK hP hD hS [0, 1, 2, 3] rfl (by rw [ef] <;> rfl) d_Ref_privileged_110
/-! MappedProcessorModel.system(I)Z -/
theorem d_Ref_system_0 : decode b_Ref_system 0 = .ok (.iload_n 1, 1) := by decide +kernel
theorem d_Ref_system_1 : decode b_Ref_system 1 = .ok (.bipush 19, 2) := by decide +kernel
theorem d_Ref_system_3 : decode b_Ref_system 3 = .ok (.if_icmp .ne 21, 3) := by decide +kernel
theorem d_Ref_system_6 : decode b_Ref_system 6 = .ok (.aload_n 0, 1) := by decide +kernel
theorem d_Ref_system_7 : decode b_Ref_system 7 = .ok (.getfield 7, 3) := by decide +kernel
theorem d_Ref_system_10 : decode b_Ref_system 10 = .ok (.aload_n 0, 1) := by decide +kernel
theorem d_Ref_system_11 : decode b_Ref_system 11 = .ok (.getfield 82, 3) := by decide +kernel
theorem d_Ref_system_14 : decode b_Ref_system 14 = .ok (.aload_n 0, 1) := by decide +kernel
theorem d_Ref_system_15 : decode b_Ref_system 15 = .ok (.getfield 13, 3) := by decide +kernel
theorem d_Ref_system_18 : decode b_Ref_system 18 = .ok (.iconst 2, 1) := by decide +kernel
theorem d_Ref_system_19 : decode b_Ref_system 19 = .ok (.iaload, 1) := by decide +kernel
theorem d_Ref_system_20 : decode b_Ref_system 20 = .ok (.iastore, 1) := by decide +kernel
theorem d_Ref_system_21 : decode b_Ref_system 21 = .ok (.goto 120, 3) := by decide +kernel
theorem d_Ref_system_24 : decode b_Ref_system 24 = .ok (.iload_n 1, 1) := by decide +kernel
theorem d_Ref_system_25 : decode b_Ref_system 25 = .ok (.sipush 144, 3) := by decide +kernel
theorem d_Ref_system_28 : decode b_Ref_system 28 = .ok (.if_icmp .ne 58, 3) := by decide +kernel
theorem d_Ref_system_31 : decode b_Ref_system 31 = .ok (.iconst 0, 1) := by decide +kernel
theorem d_Ref_system_32 : decode b_Ref_system 32 = .ok (.istore_n 2, 1) := by decide +kernel
theorem d_Ref_system_33 : decode b_Ref_system 33 = .ok (.iload_n 2, 1) := by decide +kernel
theorem d_Ref_system_34 : decode b_Ref_system 34 = .ok (.bipush 8, 2) := by decide +kernel
theorem d_Ref_system_36 : decode b_Ref_system 36 = .ok (.if_icmp .ge 47, 3) := by decide +kernel
theorem d_Ref_system_39 : decode b_Ref_system 39 = .ok (.aload_n 0, 1) := by decide +kernel
theorem d_Ref_system_40 : decode b_Ref_system 40 = .ok (.getfield 79, 3) := by decide +kernel
theorem d_Ref_system_43 : decode b_Ref_system 43 = .ok (.bipush 19, 2) := by decide +kernel
theorem d_Ref_system_45 : decode b_Ref_system 45 = .ok (.iload_n 2, 1) := by decide +kernel
theorem d_Ref_system_46 : decode b_Ref_system 46 = .ok (.isub, 1) := by decide +kernel
theorem d_Ref_system_47 : decode b_Ref_system 47 = .ok (.invokestatic 28, 3) := by decide +kernel
theorem d_Ref_system_50 : decode b_Ref_system 50 = .ok (.ifCond .eq 27, 3) := by decide +kernel
theorem d_Ref_system_53 : decode b_Ref_system 53 = .ok (.aload_n 0, 1) := by decide +kernel
theorem d_Ref_system_54 : decode b_Ref_system 54 = .ok (.iload_n 2, 1) := by decide +kernel
theorem d_Ref_system_55 : decode b_Ref_system 55 = .ok (.aload_n 0, 1) := by decide +kernel
theorem d_Ref_system_56 : decode b_Ref_system 56 = .ok (.getfield 7, 3) := by decide +kernel
theorem d_Ref_system_59 : decode b_Ref_system 59 = .ok (.aload_n 0, 1) := by decide +kernel
theorem d_Ref_system_60 : decode b_Ref_system 60 = .ok (.getfield 82, 3) := by decide +kernel
theorem d_Ref_system_63 : decode b_Ref_system 63 = .ok (.iaload, 1) := by decide +kernel
theorem d_Ref_system_64 : decode b_Ref_system 64 = .ok (.bipush 28, 2) := by decide +kernel
theorem d_Ref_system_66 : decode b_Ref_system 66 = .ok (.iconst 4, 1) := by decide +kernel
theorem d_Ref_system_67 : decode b_Ref_system 67 = .ok (.iload_n 2, 1) := by decide +kernel
theorem d_Ref_system_68 : decode b_Ref_system 68 = .ok (.imul, 1) := by decide +kernel
theorem d_Ref_system_69 : decode b_Ref_system 69 = .ok (.isub, 1) := by decide +kernel
theorem d_Ref_system_70 : decode b_Ref_system 70 = .ok (.iushr, 1) := by decide +kernel
theorem d_Ref_system_71 : decode b_Ref_system 71 = .ok (.bipush 15, 2) := by decide +kernel
theorem d_Ref_system_73 : decode b_Ref_system 73 = .ok (.iand, 1) := by decide +kernel
theorem d_Ref_system_74 : decode b_Ref_system 74 = .ok (.invokevirtual 94, 3) := by decide +kernel
theorem d_Ref_system_77 : decode b_Ref_system 77 = .ok (.iinc 2 1, 3) := by decide +kernel
theorem d_Ref_system_80 : decode b_Ref_system 80 = .ok (.goto (-47), 3) := by decide +kernel
theorem d_Ref_system_83 : decode b_Ref_system 83 = .ok (.goto 58, 3) := by decide +kernel
theorem d_Ref_system_86 : decode b_Ref_system 86 = .ok (.iload_n 1, 1) := by decide +kernel
theorem d_Ref_system_87 : decode b_Ref_system 87 = .ok (.bipush 83, 2) := by decide +kernel
theorem d_Ref_system_89 : decode b_Ref_system 89 = .ok (.if_icmp .eq 24, 3) := by decide +kernel
theorem d_Ref_system_92 : decode b_Ref_system 92 = .ok (.iload_n 1, 1) := by decide +kernel
theorem d_Ref_system_93 : decode b_Ref_system 93 = .ok (.sipush 146, 3) := by decide +kernel
theorem d_Ref_system_96 : decode b_Ref_system 96 = .ok (.if_icmp .eq 17, 3) := by decide +kernel
theorem d_Ref_system_99 : decode b_Ref_system 99 = .ok (.iload_n 1, 1) := by decide +kernel
theorem d_Ref_system_100 : decode b_Ref_system 100 = .ok (.sipush 210, 3) := by decide +kernel
theorem d_Ref_system_103 : decode b_Ref_system 103 = .ok (.if_icmp .eq 10, 3) := by decide +kernel
theorem d_Ref_system_106 : decode b_Ref_system 106 = .ok (.iload_n 1, 1) := by decide +kernel
theorem d_Ref_system_107 : decode b_Ref_system 107 = .ok (.sipush 595, 3) := by decide +kernel
theorem d_Ref_system_110 : decode b_Ref_system 110 = .ok (.if_icmp .ne 18, 3) := by decide +kernel
theorem d_Ref_system_113 : decode b_Ref_system 113 = .ok (.aload_n 0, 1) := by decide +kernel
theorem d_Ref_system_114 : decode b_Ref_system 114 = .ok (.invokevirtual 165, 3) := by decide +kernel
theorem d_Ref_system_117 : decode b_Ref_system 117 = .ok (.ifCond .ne 24, 3) := by decide +kernel
theorem d_Ref_system_120 : decode b_Ref_system 120 = .ok (.aload_n 0, 1) := by decide +kernel
theorem d_Ref_system_121 : decode b_Ref_system 121 = .ok (.iload_n 1, 1) := by decide +kernel
theorem d_Ref_system_122 : decode b_Ref_system 122 = .ok (.invokevirtual 207, 3) := by decide +kernel
theorem d_Ref_system_125 : decode b_Ref_system 125 = .ok (.goto 16, 3) := by decide +kernel
theorem d_Ref_system_128 : decode b_Ref_system 128 = .ok (.iload_n 1, 1) := by decide +kernel
theorem d_Ref_system_129 : decode b_Ref_system 129 = .ok (.sipush 598, 3) := by decide +kernel
theorem d_Ref_system_132 : decode b_Ref_system 132 = .ok (.if_icmp .ne 7, 3) := by decide +kernel
theorem d_Ref_system_135 : decode b_Ref_system 135 = .ok (.iconst 1, 1) := by decide +kernel
theorem d_Ref_system_136 : decode b_Ref_system 136 = .ok (.goto 4, 3) := by decide +kernel
theorem d_Ref_system_139 : decode b_Ref_system 139 = .ok (.iconst 0, 1) := by decide +kernel
theorem d_Ref_system_140 : decode b_Ref_system 140 = .ok (.ireturn, 1) := by decide +kernel
theorem d_Ref_system_141 : decode b_Ref_system 141 = .ok (.iconst 1, 1) := by decide +kernel
theorem d_Ref_system_142 : decode b_Ref_system 142 = .ok (.ireturn, 1) := by decide +kernel
def f_Ref_system_lp (rg : Nat → Int32) (rl : Int32) (rc : Int32) (rd : Int32) (rn : Int32) (rf : Int32) : Nat → Nat → (Nat → Int32) → Int32 × (Nat → Int32) × (Nat → Int32) × Int32 × Int32 × Int32
  | 0, j, rsL => ((1 : Int32), rg, rsL, rl, rn, rf)
  | n + 1, j, rsL => if (f_Ref_bit rc ((19 : Int32) - (nI j))) = (0 : Int32) then
      f_Ref_system_lp rg rl rc rd rn rf n (j + 1) rsL
    else
      f_Ref_system_lp rg rl rc rd rn rf n (j + 1) (f_Ref_fieldSet (nI j) ((ush (rg (ix rd)) ((28 : Int32) - ((4 : Int32) * (nI j)))) &&& (15 : Int32)) rsL)
def f_Ref_system (p0 : Int32) (rg : Nat → Int32) (rs : Nat → Int32) (rl : Int32) (rc : Int32) (rd : Int32) (ra : Int32) (rn : Int32) (rf : Int32) : Int32 × (Nat → Int32) × (Nat → Int32) × Int32 × Int32 × Int32 :=
  if p0 = (19 : Int32) then
    ((1 : Int32), (upd rg (ix rd) (rs 2)), rs, rl, rn, rf)
  else
    if p0 = (144 : Int32) then
      f_Ref_system_lp rg rl rc rd rn rf 8 0 rs
    else
      if p0 = (83 : Int32) then
        let t4 := (f_Ref_barred rs rl rn rf)
        if t4.1 = (0 : Int32) then
          let t9 := (f_Ref_privileged p0 rg t4.2.1 rd ra)
          ((1 : Int32), t9.1, t9.2, t4.2.2.1, t4.2.2.2.1, t4.2.2.2.2)
        else
          ((1 : Int32), rg, t4.2.1, t4.2.2.1, t4.2.2.2.1, t4.2.2.2.2)
      else
        if p0 = (146 : Int32) then
          let t11 := (f_Ref_barred rs rl rn rf)
          if t11.1 = (0 : Int32) then
            let t16 := (f_Ref_privileged p0 rg t11.2.1 rd ra)
            ((1 : Int32), t16.1, t16.2, t11.2.2.1, t11.2.2.2.1, t11.2.2.2.2)
          else
            ((1 : Int32), rg, t11.2.1, t11.2.2.1, t11.2.2.2.1, t11.2.2.2.2)
        else
          if p0 = (210 : Int32) then
            let t18 := (f_Ref_barred rs rl rn rf)
            if t18.1 = (0 : Int32) then
              let t23 := (f_Ref_privileged p0 rg t18.2.1 rd ra)
              ((1 : Int32), t23.1, t23.2, t18.2.2.1, t18.2.2.2.1, t18.2.2.2.2)
            else
              ((1 : Int32), rg, t18.2.1, t18.2.2.1, t18.2.2.2.1, t18.2.2.2.2)
          else
            if p0 = (595 : Int32) then
              let t30 := (f_Ref_barred rs rl rn rf)
              if t30.1 = (0 : Int32) then
                let t35 := (f_Ref_privileged p0 rg t30.2.1 rd ra)
                ((1 : Int32), t35.1, t35.2, t30.2.2.1, t30.2.2.2.1, t30.2.2.2.2)
              else
                ((1 : Int32), rg, t30.2.1, t30.2.2.1, t30.2.2.2.1, t30.2.2.2.2)
            else
              ((if p0 = (598 : Int32) then (1 : Int32) else (0 : Int32)), rg, rs, rl, rn, rf)
set_option maxHeartbeats 4000000 in
set_option maxRecDepth 100000 in
theorem ib_Ref_system (p0 : Int32) (rg : Nat → Int32) (rs : Nat → Int32) (rl : Int32) (rc : Int32) (rd : Int32) (ra : Int32) (rn : Int32) (rf : Int32) : isB (f_Ref_system p0 rg rs rl rc rd ra rn rf).1 := by
  unfold f_Ref_system
  try dsimp only
  repeat' (first | refine ib_ite ?_ ?_ | refine ib_ite0 ?_ ?_ | with_reducible exact ib0 | with_reducible exact ib1 | with_reducible exact ib_Ref_barred _ _ _ _ | with_reducible exact ib_Ref_bit _ _ | (dsimp only; first | exact ib0 | exact ib1))
theorem nb_Ref_system (p0 : Int32) (rg : Nat → Int32) (rs : Nat → Int32) (rl : Int32) (rc : Int32) (rd : Int32) (ra : Int32) (rn : Int32) (rf : Int32) : narrow .boolean (.int (f_Ref_system p0 rg rs rl rc rd ra rn rf).1) = .int (f_Ref_system p0 rg rs rl rc rd ra rn rf).1 := nb_of (ib_Ref_system p0 rg rs rl rc rd ra rn rf)
def rq_Ref_system (z : Int32 × (Nat → Int32) × (Nat → Int32) × Int32 × Int32 × Int32) : Prop := isB z.2.2.2.2.2
set_option maxHeartbeats 4000000 in
set_option maxRecDepth 100000 in
theorem rqlp_Ref_system (rg : Nat → Int32) (rl : Int32) (rc : Int32) (rd : Int32) (rn : Int32) (rf : Int32) (h : isB rf) : ∀ (n j : Nat) (rsL : Nat → Int32), rq_Ref_system (f_Ref_system_lp rg rl rc rd rn rf n j rsL) := by
  intro n
  induction n with
  | zero => intro j rsL; rw [f_Ref_system_lp]; exact h
  | succ n ih =>
    intro j rsL
    rw [f_Ref_system_lp]
    try dsimp only
    refine pred_ite ?_ ?_ <;> exact ih _ _
set_option maxHeartbeats 4000000 in
set_option maxRecDepth 100000 in
theorem rq0_Ref_system (p0 : Int32) (rg : Nat → Int32) (rs : Nat → Int32) (rl : Int32) (rc : Int32) (rd : Int32) (ra : Int32) (rn : Int32) (rf : Int32) (h : isB rf) : rq_Ref_system (f_Ref_system p0 rg rs rl rc rd ra rn rf) := by
  unfold f_Ref_system
  try dsimp only
  repeat' (with_reducible refine pred_ite ?_ ?_)
  all_goals first | exact rqlp_Ref_system _ _ _ _ _ _ h _ _ _ | skip
  all_goals (unfold rq_Ref_system)
  all_goals (try dsimp only)
  all_goals first | with_reducible exact h | with_reducible exact ib0 | with_reducible exact ib1 | with_reducible exact rb_Ref_barred _ _ _ _ (by first | with_reducible exact h | with_reducible exact ib0 | with_reducible exact ib1 | with_reducible exact rb_Ref_barred _ _ _ _ (by first | with_reducible exact h | with_reducible exact ib0 | with_reducible exact ib1))
theorem rb_Ref_system (p0 : Int32) (rg : Nat → Int32) (rs : Nat → Int32) (rl : Int32) (rc : Int32) (rd : Int32) (ra : Int32) (rn : Int32) (rf : Int32) (h : isB rf) : isB (f_Ref_system p0 rg rs rl rc rd ra rn rf).2.2.2.2.2 := rq0_Ref_system p0 rg rs rl rc rd ra rn rf h
set_option maxHeartbeats 4000000 in
set_option maxRecDepth 100000 in
theorem c_Ref_system (l : Launch) (D : va_G) (aT bG bS bM : Nat) (dG dS dM : ClassId) (rg : Nat → Int32) (rs : Nat → Int32) (rm : Nat → Int32) (rl : Int32) (rk : Int32) (rr : Int32) (re : Int32) (rc : Int32) (rd : Int32) (ra : Int32) (rb : Int32) (rn : Int32) (rf : Int32) (rw : Int32) (p0 : Int32) (hra : vp_in ra 32) (hrd : vp_in rd 32) : kMi l y_Ref_system b_Ref_system 3 (some .boolean) 2 42 D kCl [(dG, .int), (dS, .int), (dM, .int)] [.ref aT, .int p0] [(aT, .inr (11, [.ref bG, .ref bS, .ref bM, .int rl, .int rk, .int rr, .int re, .int rc, .int rd, .int ra, .int rb, .int rn, .int rf, .int rw])), (bG, .inl (dG, 32, .inl rg)), (bS, .inl (dS, 48, .inl rs)), (bM, .inl (dM, 16384, .inl rm))] (f_Ref_system p0 rg rs rl rc rd ra rn rf).1 [(aT, .inr (11, [.ref bG, .ref bS, .ref bM, .int (f_Ref_system p0 rg rs rl rc rd ra rn rf).2.2.2.1, .int rk, .int rr, .int re, .int rc, .int rd, .int ra, .int rb, .int (f_Ref_system p0 rg rs rl rc rd ra rn rf).2.2.2.2.1, .int (f_Ref_system p0 rg rs rl rc rd ra rn rf).2.2.2.2.2, .int rw])), (bG, .inl (dG, 32, .inl (f_Ref_system p0 rg rs rl rc rd ra rn rf).2.1)), (bS, .inl (dS, 48, .inl (f_Ref_system p0 rg rs rl rc rd ra rn rf).2.2.1)), (bM, .inl (dM, 16384, .inl rm))] := by
  refine k_entry (Qc := fun A => kQi D kCl [(dG, .int), (dS, .int), (dM, .int)] (f_Ref_system p0 rg rs rl rc rd ra rn rf).1 [(aT, .inr (11, [.ref bG, .ref bS, .ref bM, .int (f_Ref_system p0 rg rs rl rc rd ra rn rf).2.2.2.1, .int rk, .int rr, .int re, .int rc, .int rd, .int ra, .int rb, .int (f_Ref_system p0 rg rs rl rc rd ra rn rf).2.2.2.2.1, .int (f_Ref_system p0 rg rs rl rc rd ra rn rf).2.2.2.2.2, .int rw])), (bG, .inl (dG, 32, .inl (f_Ref_system p0 rg rs rl rc rd ra rn rf).2.1)), (bS, .inl (dS, 48, .inl (f_Ref_system p0 rg rs rl rc rd ra rn rf).2.2.1)), (bM, .inl (dM, 16384, .inl rm))] A) (lv := [(0, .ref aT), (1, .int p0)]) (by decide) (Nat.le_of_ble_eq_true rfl) rfl ?_
  intro p e s m below meth c A ls hx hb hr hml hB hown hlocks hin hA hK hN hP hD hS hl
  have hown : s.vm.findClass "MappedProcessorModel" = some m.cls := hown
  refine lv_iload_n hx hb d_Ref_system_0 rfl (lv_at hl 1 rfl) ?_
  refine lv_bipush (v := (19 : Int32)) hx hb d_Ref_system_1 (by decide) ?_
  refine lv_icmp_ne (tgt := 24) hx hb d_Ref_system_3 (by decide) (fun (h1 : ¬ p0 = (19 : Int32)) => ?_) (fun (h1 : p0 = (19 : Int32)) => ?_)
  · refine lv_iload_n hx hb d_Ref_system_24 rfl (lv_at hl 1 rfl) ?_
    refine lv_sipush (v := (144 : Int32)) hx hb d_Ref_system_25 (by decide) ?_
    refine lv_icmp_ne (tgt := 86) hx hb d_Ref_system_28 (by decide) (fun (h2 : ¬ p0 = (144 : Int32)) => ?_) (fun (h2 : p0 = (144 : Int32)) => ?_)
    · refine lv_iload_n hx hb d_Ref_system_86 rfl (lv_at hl 1 rfl) ?_
      refine lv_bipush (v := (83 : Int32)) hx hb d_Ref_system_87 (by decide) ?_
      refine lv_icmp_eq (tgt := 113) hx hb d_Ref_system_89 (by decide) (fun (h3 : p0 = (83 : Int32)) => ?_) (fun (h3 : ¬ p0 = (83 : Int32)) => ?_)
      · refine lv_aload_n hx hb d_Ref_system_113 rfl (lv_at hl 0 rfl) ?_
        let t4 := (f_Ref_barred rs rl rn rf)
        refine k_cVi (As := []) (rest := []) (wr := []) (wj := [(aT, .inr (11, [.ref bG, .ref bS, .ref bM, .int t4.2.2.1, .int rk, .int rr, .int re, .int rc, .int rd, .int ra, .int rb, .int t4.2.2.2.1, .int t4.2.2.2.2, .int rw])), (bG, .inl (dG, 32, .inl rg)), (bS, .inl (dS, 48, .inl t4.2.1)), (bM, .inl (dM, 16384, .inl rm))]) ⟨hx, hb, hml, hown, hB⟩ (c_Ref_barred l D aT bG bS bM dG dS dM rg rs rm rl rk rr re rc rd ra rb rn rf rw) yl_Ref_barred mw_822 hK hN hP hD hS hA [0, 1, 2] [0, 1, 2, 3] [] [0, 1, 2, 3] rfl rfl rfl rfl (by decide +kernel) 0 rfl rfl rfl rfl hl.1 rfl (Nat.le_of_ble_eq_true rfl) ⟨Nat.le_of_ble_eq_true rfl, Nat.le_of_ble_eq_true rfl⟩ d_Ref_system_114 ⟨Nat.le_of_ble_eq_true rfl, Nat.le_of_ble_eq_true rfl⟩ (fun H locs hP hD hS => ?_)
        refine lv_if_ne (tgt := 141) hx hb d_Ref_system_117 (by decide) (fun (h8 : ¬ t4.1 = (0 : Int32)) => ?_) (fun (h8 : t4.1 = (0 : Int32)) => ?_)
        · refine lv_iconst (v := (1 : Int32)) hx hb d_Ref_system_141 (by decide) ?_
          have ef : f_Ref_system p0 rg rs rl rc rd ra rn rf = ((1 : Int32), rg, t4.2.1, t4.2.2.1, t4.2.2.2.1, t4.2.2.2.2) := by unfold f_Ref_system; (try dsimp only); rw [if_neg h1, if_neg h2, if_pos h3, if_neg h8]
          exact k_zret hx hb hr hlocks hK hP hD hS [0, 1, 2, 3] rfl (by rw [ef] <;> rfl) (by rw [ef] <;> rfl) nb1 d_Ref_system_142
        · refine lv_aload_n hx hb d_Ref_system_120 rfl (lv_at hl 0 rfl) ?_
          refine lv_iload_n hx hb d_Ref_system_121 rfl (lv_at hl 1 rfl) ?_
          let t9 := (f_Ref_privileged p0 rg t4.2.1 rd ra)
          refine k_cVv (As := [.int p0]) (rest := []) (wr := []) (wj := [(aT, .inr (11, [.ref bG, .ref bS, .ref bM, .int t4.2.2.1, .int rk, .int rr, .int re, .int rc, .int rd, .int ra, .int rb, .int t4.2.2.2.1, .int t4.2.2.2.2, .int rw])), (bG, .inl (dG, 32, .inl t9.1)), (bS, .inl (dS, 48, .inl t9.2)), (bM, .inl (dM, 16384, .inl rm))]) ⟨hx, hb, hml, hown, hB⟩ (c_Ref_privileged l D aT bG bS bM dG dS dM rg t4.2.1 rm t4.2.2.1 rk rr re rc rd ra rb t4.2.2.2.1 t4.2.2.2.2 rw p0 hra hrd) yl_Ref_privileged mw_897 hK hN hP hD hS hA [0, 1, 2] [0, 1, 2, 3] [] [0, 1, 2, 3] rfl rfl rfl rfl (by decide +kernel) 0 rfl rfl rfl rfl hl.1 rfl (Nat.le_of_ble_eq_true rfl) ⟨Nat.le_of_ble_eq_true rfl, Nat.le_of_ble_eq_true rfl⟩ d_Ref_system_122 ⟨Nat.le_of_ble_eq_true rfl, Nat.le_of_ble_eq_true rfl⟩ (fun H locs hP hD hS => ?_)
          refine lv_goto (tgt := 141) hx hb d_Ref_system_125 (by decide) ?_
          refine lv_iconst (v := (1 : Int32)) hx hb d_Ref_system_141 (by decide) ?_
          have ef : f_Ref_system p0 rg rs rl rc rd ra rn rf = ((1 : Int32), t9.1, t9.2, t4.2.2.1, t4.2.2.2.1, t4.2.2.2.2) := by unfold f_Ref_system; (try dsimp only); rw [if_neg h1, if_neg h2, if_pos h3, if_pos h8]
          exact k_zret hx hb hr hlocks hK hP hD hS [0, 1, 2, 3] rfl (by rw [ef] <;> rfl) (by rw [ef] <;> rfl) nb1 d_Ref_system_142
      · refine lv_iload_n hx hb d_Ref_system_92 rfl (lv_at hl 1 rfl) ?_
        refine lv_sipush (v := (146 : Int32)) hx hb d_Ref_system_93 (by decide) ?_
        refine lv_icmp_eq (tgt := 113) hx hb d_Ref_system_96 (by decide) (fun (h10 : p0 = (146 : Int32)) => ?_) (fun (h10 : ¬ p0 = (146 : Int32)) => ?_)
        · refine lv_aload_n hx hb d_Ref_system_113 rfl (lv_at hl 0 rfl) ?_
          let t11 := (f_Ref_barred rs rl rn rf)
          refine k_cVi (As := []) (rest := []) (wr := []) (wj := [(aT, .inr (11, [.ref bG, .ref bS, .ref bM, .int t11.2.2.1, .int rk, .int rr, .int re, .int rc, .int rd, .int ra, .int rb, .int t11.2.2.2.1, .int t11.2.2.2.2, .int rw])), (bG, .inl (dG, 32, .inl rg)), (bS, .inl (dS, 48, .inl t11.2.1)), (bM, .inl (dM, 16384, .inl rm))]) ⟨hx, hb, hml, hown, hB⟩ (c_Ref_barred l D aT bG bS bM dG dS dM rg rs rm rl rk rr re rc rd ra rb rn rf rw) yl_Ref_barred mw_822 hK hN hP hD hS hA [0, 1, 2] [0, 1, 2, 3] [] [0, 1, 2, 3] rfl rfl rfl rfl (by decide +kernel) 0 rfl rfl rfl rfl hl.1 rfl (Nat.le_of_ble_eq_true rfl) ⟨Nat.le_of_ble_eq_true rfl, Nat.le_of_ble_eq_true rfl⟩ d_Ref_system_114 ⟨Nat.le_of_ble_eq_true rfl, Nat.le_of_ble_eq_true rfl⟩ (fun H locs hP hD hS => ?_)
          refine lv_if_ne (tgt := 141) hx hb d_Ref_system_117 (by decide) (fun (h15 : ¬ t11.1 = (0 : Int32)) => ?_) (fun (h15 : t11.1 = (0 : Int32)) => ?_)
          · refine lv_iconst (v := (1 : Int32)) hx hb d_Ref_system_141 (by decide) ?_
            have ef : f_Ref_system p0 rg rs rl rc rd ra rn rf = ((1 : Int32), rg, t11.2.1, t11.2.2.1, t11.2.2.2.1, t11.2.2.2.2) := by unfold f_Ref_system; (try dsimp only); rw [if_neg h1, if_neg h2, if_neg h3, if_pos h10, if_neg h15]
            exact k_zret hx hb hr hlocks hK hP hD hS [0, 1, 2, 3] rfl (by rw [ef] <;> rfl) (by rw [ef] <;> rfl) nb1 d_Ref_system_142
          · refine lv_aload_n hx hb d_Ref_system_120 rfl (lv_at hl 0 rfl) ?_
            refine lv_iload_n hx hb d_Ref_system_121 rfl (lv_at hl 1 rfl) ?_
            let t16 := (f_Ref_privileged p0 rg t11.2.1 rd ra)
            refine k_cVv (As := [.int p0]) (rest := []) (wr := []) (wj := [(aT, .inr (11, [.ref bG, .ref bS, .ref bM, .int t11.2.2.1, .int rk, .int rr, .int re, .int rc, .int rd, .int ra, .int rb, .int t11.2.2.2.1, .int t11.2.2.2.2, .int rw])), (bG, .inl (dG, 32, .inl t16.1)), (bS, .inl (dS, 48, .inl t16.2)), (bM, .inl (dM, 16384, .inl rm))]) ⟨hx, hb, hml, hown, hB⟩ (c_Ref_privileged l D aT bG bS bM dG dS dM rg t11.2.1 rm t11.2.2.1 rk rr re rc rd ra rb t11.2.2.2.1 t11.2.2.2.2 rw p0 hra hrd) yl_Ref_privileged mw_897 hK hN hP hD hS hA [0, 1, 2] [0, 1, 2, 3] [] [0, 1, 2, 3] rfl rfl rfl rfl (by decide +kernel) 0 rfl rfl rfl rfl hl.1 rfl (Nat.le_of_ble_eq_true rfl) ⟨Nat.le_of_ble_eq_true rfl, Nat.le_of_ble_eq_true rfl⟩ d_Ref_system_122 ⟨Nat.le_of_ble_eq_true rfl, Nat.le_of_ble_eq_true rfl⟩ (fun H locs hP hD hS => ?_)
            refine lv_goto (tgt := 141) hx hb d_Ref_system_125 (by decide) ?_
            refine lv_iconst (v := (1 : Int32)) hx hb d_Ref_system_141 (by decide) ?_
            have ef : f_Ref_system p0 rg rs rl rc rd ra rn rf = ((1 : Int32), t16.1, t16.2, t11.2.2.1, t11.2.2.2.1, t11.2.2.2.2) := by unfold f_Ref_system; (try dsimp only); rw [if_neg h1, if_neg h2, if_neg h3, if_pos h10, if_pos h15]
            exact k_zret hx hb hr hlocks hK hP hD hS [0, 1, 2, 3] rfl (by rw [ef] <;> rfl) (by rw [ef] <;> rfl) nb1 d_Ref_system_142
        · refine lv_iload_n hx hb d_Ref_system_99 rfl (lv_at hl 1 rfl) ?_
          refine lv_sipush (v := (210 : Int32)) hx hb d_Ref_system_100 (by decide) ?_
          refine lv_icmp_eq (tgt := 113) hx hb d_Ref_system_103 (by decide) (fun (h17 : p0 = (210 : Int32)) => ?_) (fun (h17 : ¬ p0 = (210 : Int32)) => ?_)
          · refine lv_aload_n hx hb d_Ref_system_113 rfl (lv_at hl 0 rfl) ?_
            let t18 := (f_Ref_barred rs rl rn rf)
            refine k_cVi (As := []) (rest := []) (wr := []) (wj := [(aT, .inr (11, [.ref bG, .ref bS, .ref bM, .int t18.2.2.1, .int rk, .int rr, .int re, .int rc, .int rd, .int ra, .int rb, .int t18.2.2.2.1, .int t18.2.2.2.2, .int rw])), (bG, .inl (dG, 32, .inl rg)), (bS, .inl (dS, 48, .inl t18.2.1)), (bM, .inl (dM, 16384, .inl rm))]) ⟨hx, hb, hml, hown, hB⟩ (c_Ref_barred l D aT bG bS bM dG dS dM rg rs rm rl rk rr re rc rd ra rb rn rf rw) yl_Ref_barred mw_822 hK hN hP hD hS hA [0, 1, 2] [0, 1, 2, 3] [] [0, 1, 2, 3] rfl rfl rfl rfl (by decide +kernel) 0 rfl rfl rfl rfl hl.1 rfl (Nat.le_of_ble_eq_true rfl) ⟨Nat.le_of_ble_eq_true rfl, Nat.le_of_ble_eq_true rfl⟩ d_Ref_system_114 ⟨Nat.le_of_ble_eq_true rfl, Nat.le_of_ble_eq_true rfl⟩ (fun H locs hP hD hS => ?_)
            refine lv_if_ne (tgt := 141) hx hb d_Ref_system_117 (by decide) (fun (h22 : ¬ t18.1 = (0 : Int32)) => ?_) (fun (h22 : t18.1 = (0 : Int32)) => ?_)
            · refine lv_iconst (v := (1 : Int32)) hx hb d_Ref_system_141 (by decide) ?_
              have ef : f_Ref_system p0 rg rs rl rc rd ra rn rf = ((1 : Int32), rg, t18.2.1, t18.2.2.1, t18.2.2.2.1, t18.2.2.2.2) := by unfold f_Ref_system; (try dsimp only); rw [if_neg h1, if_neg h2, if_neg h3, if_neg h10, if_pos h17, if_neg h22]
              exact k_zret hx hb hr hlocks hK hP hD hS [0, 1, 2, 3] rfl (by rw [ef] <;> rfl) (by rw [ef] <;> rfl) nb1 d_Ref_system_142
            · refine lv_aload_n hx hb d_Ref_system_120 rfl (lv_at hl 0 rfl) ?_
              refine lv_iload_n hx hb d_Ref_system_121 rfl (lv_at hl 1 rfl) ?_
              let t23 := (f_Ref_privileged p0 rg t18.2.1 rd ra)
              refine k_cVv (As := [.int p0]) (rest := []) (wr := []) (wj := [(aT, .inr (11, [.ref bG, .ref bS, .ref bM, .int t18.2.2.1, .int rk, .int rr, .int re, .int rc, .int rd, .int ra, .int rb, .int t18.2.2.2.1, .int t18.2.2.2.2, .int rw])), (bG, .inl (dG, 32, .inl t23.1)), (bS, .inl (dS, 48, .inl t23.2)), (bM, .inl (dM, 16384, .inl rm))]) ⟨hx, hb, hml, hown, hB⟩ (c_Ref_privileged l D aT bG bS bM dG dS dM rg t18.2.1 rm t18.2.2.1 rk rr re rc rd ra rb t18.2.2.2.1 t18.2.2.2.2 rw p0 hra hrd) yl_Ref_privileged mw_897 hK hN hP hD hS hA [0, 1, 2] [0, 1, 2, 3] [] [0, 1, 2, 3] rfl rfl rfl rfl (by decide +kernel) 0 rfl rfl rfl rfl hl.1 rfl (Nat.le_of_ble_eq_true rfl) ⟨Nat.le_of_ble_eq_true rfl, Nat.le_of_ble_eq_true rfl⟩ d_Ref_system_122 ⟨Nat.le_of_ble_eq_true rfl, Nat.le_of_ble_eq_true rfl⟩ (fun H locs hP hD hS => ?_)
              refine lv_goto (tgt := 141) hx hb d_Ref_system_125 (by decide) ?_
              refine lv_iconst (v := (1 : Int32)) hx hb d_Ref_system_141 (by decide) ?_
              have ef : f_Ref_system p0 rg rs rl rc rd ra rn rf = ((1 : Int32), t23.1, t23.2, t18.2.2.1, t18.2.2.2.1, t18.2.2.2.2) := by unfold f_Ref_system; (try dsimp only); rw [if_neg h1, if_neg h2, if_neg h3, if_neg h10, if_pos h17, if_pos h22]
              exact k_zret hx hb hr hlocks hK hP hD hS [0, 1, 2, 3] rfl (by rw [ef] <;> rfl) (by rw [ef] <;> rfl) nb1 d_Ref_system_142
          · refine lv_iload_n hx hb d_Ref_system_106 rfl (lv_at hl 1 rfl) ?_
            refine lv_sipush (v := (595 : Int32)) hx hb d_Ref_system_107 (by decide) ?_
            refine lv_icmp_ne (tgt := 128) hx hb d_Ref_system_110 (by decide) (fun (h24 : ¬ p0 = (595 : Int32)) => ?_) (fun (h24 : p0 = (595 : Int32)) => ?_)
            · refine lv_iload_n hx hb d_Ref_system_128 rfl (lv_at hl 1 rfl) ?_
              refine lv_sipush (v := (598 : Int32)) hx hb d_Ref_system_129 (by decide) ?_
              refine k_join2 (c0 := p0 = (598 : Int32)) (x1 := (1 : Int32)) (x2 := (0 : Int32)) (rest := []) 140 ?_ (fun k26 k27 => ?_)
              rotate_left
              · refine lv_icmp_ne (tgt := 139) hx hb d_Ref_system_132 (by decide) (fun (h25 : ¬ p0 = (598 : Int32)) => ?_) (fun (h25 : p0 = (598 : Int32)) => ?_)
                · refine lv_iconst (v := (0 : Int32)) hx hb d_Ref_system_139 (by decide) ?_
                  exact k27 h25
                · refine lv_iconst (v := (1 : Int32)) hx hb d_Ref_system_135 (by decide) ?_
                  refine lv_goto (tgt := 140) hx hb d_Ref_system_136 (by decide) ?_
                  exact k26 h25
              have ef : f_Ref_system p0 rg rs rl rc rd ra rn rf = ((if p0 = (598 : Int32) then (1 : Int32) else (0 : Int32)), rg, rs, rl, rn, rf) := by unfold f_Ref_system; (try dsimp only); rw [if_neg h1, if_neg h2, if_neg h3, if_neg h10, if_neg h17, if_neg h24]
              exact k_zret hx hb hr hlocks hK hP hD hS [0, 1, 2, 3] rfl (by rw [ef] <;> rfl) (by rw [ef] <;> rfl) (nb_ite nb1 nb0) d_Ref_system_140
            · refine lv_aload_n hx hb d_Ref_system_113 rfl (lv_at hl 0 rfl) ?_
              let t30 := (f_Ref_barred rs rl rn rf)
              refine k_cVi (As := []) (rest := []) (wr := []) (wj := [(aT, .inr (11, [.ref bG, .ref bS, .ref bM, .int t30.2.2.1, .int rk, .int rr, .int re, .int rc, .int rd, .int ra, .int rb, .int t30.2.2.2.1, .int t30.2.2.2.2, .int rw])), (bG, .inl (dG, 32, .inl rg)), (bS, .inl (dS, 48, .inl t30.2.1)), (bM, .inl (dM, 16384, .inl rm))]) ⟨hx, hb, hml, hown, hB⟩ (c_Ref_barred l D aT bG bS bM dG dS dM rg rs rm rl rk rr re rc rd ra rb rn rf rw) yl_Ref_barred mw_822 hK hN hP hD hS hA [0, 1, 2] [0, 1, 2, 3] [] [0, 1, 2, 3] rfl rfl rfl rfl (by decide +kernel) 0 rfl rfl rfl rfl hl.1 rfl (Nat.le_of_ble_eq_true rfl) ⟨Nat.le_of_ble_eq_true rfl, Nat.le_of_ble_eq_true rfl⟩ d_Ref_system_114 ⟨Nat.le_of_ble_eq_true rfl, Nat.le_of_ble_eq_true rfl⟩ (fun H locs hP hD hS => ?_)
              refine lv_if_ne (tgt := 141) hx hb d_Ref_system_117 (by decide) (fun (h34 : ¬ t30.1 = (0 : Int32)) => ?_) (fun (h34 : t30.1 = (0 : Int32)) => ?_)
              · refine lv_iconst (v := (1 : Int32)) hx hb d_Ref_system_141 (by decide) ?_
                have ef : f_Ref_system p0 rg rs rl rc rd ra rn rf = ((1 : Int32), rg, t30.2.1, t30.2.2.1, t30.2.2.2.1, t30.2.2.2.2) := by unfold f_Ref_system; (try dsimp only); rw [if_neg h1, if_neg h2, if_neg h3, if_neg h10, if_neg h17, if_pos h24, if_neg h34]
                exact k_zret hx hb hr hlocks hK hP hD hS [0, 1, 2, 3] rfl (by rw [ef] <;> rfl) (by rw [ef] <;> rfl) nb1 d_Ref_system_142
              · refine lv_aload_n hx hb d_Ref_system_120 rfl (lv_at hl 0 rfl) ?_
                refine lv_iload_n hx hb d_Ref_system_121 rfl (lv_at hl 1 rfl) ?_
                let t35 := (f_Ref_privileged p0 rg t30.2.1 rd ra)
                refine k_cVv (As := [.int p0]) (rest := []) (wr := []) (wj := [(aT, .inr (11, [.ref bG, .ref bS, .ref bM, .int t30.2.2.1, .int rk, .int rr, .int re, .int rc, .int rd, .int ra, .int rb, .int t30.2.2.2.1, .int t30.2.2.2.2, .int rw])), (bG, .inl (dG, 32, .inl t35.1)), (bS, .inl (dS, 48, .inl t35.2)), (bM, .inl (dM, 16384, .inl rm))]) ⟨hx, hb, hml, hown, hB⟩ (c_Ref_privileged l D aT bG bS bM dG dS dM rg t30.2.1 rm t30.2.2.1 rk rr re rc rd ra rb t30.2.2.2.1 t30.2.2.2.2 rw p0 hra hrd) yl_Ref_privileged mw_897 hK hN hP hD hS hA [0, 1, 2] [0, 1, 2, 3] [] [0, 1, 2, 3] rfl rfl rfl rfl (by decide +kernel) 0 rfl rfl rfl rfl hl.1 rfl (Nat.le_of_ble_eq_true rfl) ⟨Nat.le_of_ble_eq_true rfl, Nat.le_of_ble_eq_true rfl⟩ d_Ref_system_122 ⟨Nat.le_of_ble_eq_true rfl, Nat.le_of_ble_eq_true rfl⟩ (fun H locs hP hD hS => ?_)
                refine lv_goto (tgt := 141) hx hb d_Ref_system_125 (by decide) ?_
                refine lv_iconst (v := (1 : Int32)) hx hb d_Ref_system_141 (by decide) ?_
                have ef : f_Ref_system p0 rg rs rl rc rd ra rn rf = ((1 : Int32), t35.1, t35.2, t30.2.2.1, t30.2.2.2.1, t30.2.2.2.2) := by unfold f_Ref_system; (try dsimp only); rw [if_neg h1, if_neg h2, if_neg h3, if_neg h10, if_neg h17, if_pos h24, if_pos h34]
                exact k_zret hx hb hr hlocks hK hP hD hS [0, 1, 2, 3] rfl (by rw [ef] <;> rfl) (by rw [ef] <;> rfl) nb1 d_Ref_system_142
    · refine lv_iconst (v := (0 : Int32)) hx hb d_Ref_system_31 (by decide) ?_
      refine lv_istore_n (lv' := [(2, .int (0 : Int32)), (0, .ref aT), (1, .int p0)]) hx hb d_Ref_system_32 rfl hl (by decide) rfl (fun ls hl => ?_)
      have ef : f_Ref_system p0 rg rs rl rc rd ra rn rf = f_Ref_system_lp rg rl rc rd rn rf 8 0 rs := by unfold f_Ref_system; (try dsimp only); rw [if_neg h1, if_pos h2]
      have lp : ∀ (n j : Nat) (rsL : Nat → Int32) (H : Heap) (locs : List Loc) (ls : Array Slot), j + n = 8 → f_Ref_system p0 rg rs rl rc rd ra rn rf = f_Ref_system_lp rg rl rc rd rn rf n j rsL → va_P D kCl [(aT, .inr (11, [.ref bG, .ref bS, .ref bM, .int rl, .int rk, .int rr, .int re, .int rc, .int rd, .int ra, .int rb, .int rn, .int rf, .int rw])), (bG, .inl (dG, 32, .inl rg)), (bS, .inl (dS, 48, .inl rsL)), (bM, .inl (dM, 16384, .inl rm))] H → va_D A [(aT, .inr (11, [.ref bG, .ref bS, .ref bM, .int rl, .int rk, .int rr, .int re, .int rc, .int rd, .int ra, .int rb, .int rn, .int rf, .int rw])), (bG, .inl (dG, 32, .inl rg)), (bS, .inl (dS, 48, .inl rsL)), (bM, .inl (dM, 16384, .inl rm))] → va_S A s.heap H locs → lv_has ls 3 [(2, .int (nI j)), (0, .ref aT), (1, .int p0)] → W p l e { frames := 2, cells := 0, slots := 0, locals := 42 } s m (([.ref aT, .int p0] : List Value).toArray) below meth c H locs 0 0 (MQ below (kQi D kCl [(dG, .int), (dS, .int), (dM, .int)] (f_Ref_system p0 rg rs rl rc rd ra rn rf).1 [(aT, .inr (11, [.ref bG, .ref bS, .ref bM, .int (f_Ref_system p0 rg rs rl rc rd ra rn rf).2.2.2.1, .int rk, .int rr, .int re, .int rc, .int rd, .int ra, .int rb, .int (f_Ref_system p0 rg rs rl rc rd ra rn rf).2.2.2.2.1, .int (f_Ref_system p0 rg rs rl rc rd ra rn rf).2.2.2.2.2, .int rw])), (bG, .inl (dG, 32, .inl (f_Ref_system p0 rg rs rl rc rd ra rn rf).2.1)), (bS, .inl (dS, 48, .inl (f_Ref_system p0 rg rs rl rc rd ra rn rf).2.2.1)), (bM, .inl (dM, 16384, .inl rm))] A) (([.ref aT, .int p0] : List Value).toArray) s 0 0 A) (F0 m 33 ls []) := by
        intro n
        induction n with
        | zero =>
          intro j rsL H locs ls hj ef0 hP hD hS hl
          refine lv_iload_n hx hb d_Ref_system_33 rfl (lv_at hl 0 rfl) ?_
          refine lv_bipush (v := (8 : Int32)) hx hb d_Ref_system_34 (by decide) ?_
          refine lv_icmp_ge (tgt := 83) hx hb d_Ref_system_36 (by decide) (fun (h36 : (8 : Int32) ≤ (nI j)) => ?_) (fun (h36 : ¬ (8 : Int32) ≤ (nI j)) => ?_)
          rotate_left
          · exact absurd (lp_z (B := 8) (by decide) hj) h36
          refine lv_goto (tgt := 141) hx hb d_Ref_system_83 (by decide) ?_
          refine lv_iconst (v := (1 : Int32)) hx hb d_Ref_system_141 (by decide) ?_
          have ef : f_Ref_system p0 rg rs rl rc rd ra rn rf = ((1 : Int32), rg, rsL, rl, rn, rf) := ef0.trans (by rw [f_Ref_system_lp]; (try dsimp only))
          exact k_zret hx hb hr hlocks hK hP hD hS [0, 1, 2, 3] rfl (by rw [ef] <;> rfl) (by rw [ef] <;> rfl) nb1 d_Ref_system_142
        | succ n ih =>
          intro j rsL H locs ls hj ef0 hP hD hS hl
          refine lv_iload_n hx hb d_Ref_system_33 rfl (lv_at hl 0 rfl) ?_
          refine lv_bipush (v := (8 : Int32)) hx hb d_Ref_system_34 (by decide) ?_
          refine lv_icmp_ge (tgt := 83) hx hb d_Ref_system_36 (by decide) (fun (h37 : (8 : Int32) ≤ (nI j)) => ?_) (fun (h37 : ¬ (8 : Int32) ≤ (nI j)) => ?_)
          · exact absurd h37 (lp_s (B := 8) (by decide) hj)
          refine lv_aload_n hx hb d_Ref_system_39 rfl (lv_at hl 1 rfl) ?_
          refine va_get (D := D) (ci := 11) (v := .int rc) (C := "MappedProcessorModel") (T := T_Ref) (N := 14) hx hb hB iw_Ref hown hK hP 0 rfl rfl 7 (by decide) (hB _ mw_650) (fun _ h9 => h9) rfl d_Ref_system_40 ?_
          refine lv_bipush (v := (19 : Int32)) hx hb d_Ref_system_43 (by decide) ?_
          refine lv_iload_n hx hb d_Ref_system_45 rfl (lv_at hl 0 rfl) ?_
          refine lv_isub hx hb d_Ref_system_46 ?_
          refine k_cSi (As := [.int rc, .int ((19 : Int32) - (nI j))]) (rest := []) (wr := [(aT, .inr (11, [.ref bG, .ref bS, .ref bM, .int rl, .int rk, .int rr, .int re, .int rc, .int rd, .int ra, .int rb, .int rn, .int rf, .int rw])), (bG, .inl (dG, 32, .inl rg)), (bS, .inl (dS, 48, .inl rsL)), (bM, .inl (dM, 16384, .inl rm))]) (wj := [(aT, .inr (11, [.ref bG, .ref bS, .ref bM, .int rl, .int rk, .int rr, .int re, .int rc, .int rd, .int ra, .int rb, .int rn, .int rf, .int rw])), (bG, .inl (dG, 32, .inl rg)), (bS, .inl (dS, 48, .inl rsL)), (bM, .inl (dM, 16384, .inl rm))]) ⟨hx, hb, hml, hown, hB⟩ (c_Ref_bit l D rc ((19 : Int32) - (nI j))) yl_Ref_bit mw_725 hK hN hP hD hS hA [] [] [0, 1, 2, 3] [0, 1, 2, 3] rfl rfl rfl rfl (by decide +kernel) rfl hl.1 rfl (Nat.le_of_ble_eq_true rfl) ⟨Nat.le_of_ble_eq_true rfl, Nat.le_of_ble_eq_true rfl⟩ d_Ref_system_47 ⟨Nat.le_of_ble_eq_true rfl, Nat.le_of_ble_eq_true rfl⟩ (fun H locs hP hD hS => ?_)
          refine lv_if_eq (tgt := 77) hx hb d_Ref_system_50 (by decide) (fun (h41 : (f_Ref_bit rc ((19 : Int32) - (nI j))) = (0 : Int32)) => ?_) (fun (h41 : ¬ (f_Ref_bit rc ((19 : Int32) - (nI j))) = (0 : Int32)) => ?_)
          · refine lv_iinc (v := (nI (j + 1))) (lv' := [(2, .int (nI (j + 1))), (0, .ref aT), (1, .int p0)]) hx hb d_Ref_system_77 hl (k := 0) rfl (nI_1 j) (by decide) rfl (fun ls hl => ?_)
            refine lv_goto (tgt := 33) hx hb d_Ref_system_80 (by decide) ?_
            have ef : f_Ref_system p0 rg rs rl rc rd ra rn rf = f_Ref_system_lp rg rl rc rd rn rf n (j + 1) rsL := ef0.trans (by rw [f_Ref_system_lp]; (try dsimp only); rw [if_pos h41])
            exact ih (j + 1) rsL _ _ ls (by omega) ef hP hD hS (lv_sub hl [0, 1, 2] rfl)
          · refine lv_aload_n hx hb d_Ref_system_53 rfl (lv_at hl 1 rfl) ?_
            refine lv_iload_n hx hb d_Ref_system_54 rfl (lv_at hl 0 rfl) ?_
            refine lv_aload_n hx hb d_Ref_system_55 rfl (lv_at hl 1 rfl) ?_
            refine va_get (D := D) (ci := 11) (v := .ref bG) (C := "MappedProcessorModel") (T := T_Ref) (N := 14) hx hb hB iw_Ref hown hK hP 0 rfl rfl 0 (by decide) (hB _ mw_643) (fun _ h9 => h9) rfl d_Ref_system_56 ?_
            refine lv_aload_n hx hb d_Ref_system_59 rfl (lv_at hl 1 rfl) ?_
            refine va_get (D := D) (ci := 11) (v := .int rd) (C := "MappedProcessorModel") (T := T_Ref) (N := 14) hx hb hB iw_Ref hown hK hP 0 rfl rfl 8 (by decide) (hB _ mw_651) (fun _ h9 => h9) rfl d_Ref_system_60 ?_
            refine k_iald (j := (ix rd)) hx hb hK hP 1 0 rfl rfl rfl hrd d_Ref_system_63 ?_
            refine lv_bipush (v := (28 : Int32)) hx hb d_Ref_system_64 (by decide) ?_
            refine lv_iconst (v := (4 : Int32)) hx hb d_Ref_system_66 (by decide) ?_
            refine lv_iload_n hx hb d_Ref_system_67 rfl (lv_at hl 0 rfl) ?_
            refine lv_imul hx hb d_Ref_system_68 ?_
            refine lv_isub hx hb d_Ref_system_69 ?_
            refine lv_iushr (v := (ush (rg (ix rd)) ((28 : Int32) - ((4 : Int32) * (nI j))))) hx hb d_Ref_system_70 rfl ?_
            refine lv_bipush (v := (15 : Int32)) hx hb d_Ref_system_71 (by decide) ?_
            refine lv_iand hx hb d_Ref_system_73 ?_
            refine k_cVv (As := [.int (nI j), .int ((ush (rg (ix rd)) ((28 : Int32) - ((4 : Int32) * (nI j)))) &&& (15 : Int32))]) (rest := []) (wr := []) (wj := [(aT, .inr (11, [.ref bG, .ref bS, .ref bM, .int rl, .int rk, .int rr, .int re, .int rc, .int rd, .int ra, .int rb, .int rn, .int rf, .int rw])), (bG, .inl (dG, 32, .inl rg)), (bS, .inl (dS, 48, .inl (f_Ref_fieldSet (nI j) ((ush (rg (ix rd)) ((28 : Int32) - ((4 : Int32) * (nI j)))) &&& (15 : Int32)) rsL))), (bM, .inl (dM, 16384, .inl rm))]) ⟨hx, hb, hml, hown, hB⟩ (c_Ref_fieldSet l D aT bG bS bM dG dS dM rg rsL rm rl rk rr re rc rd ra rb rn rf rw (nI j) ((ush (rg (ix rd)) ((28 : Int32) - ((4 : Int32) * (nI j)))) &&& (15 : Int32))) yl_Ref_fieldSet mw_793 hK hN hP hD hS hA [0, 1, 2] [0, 1, 2, 3] [] [0, 1, 2, 3] rfl rfl rfl rfl (by decide +kernel) 0 rfl rfl rfl rfl hl.1 rfl (Nat.le_of_ble_eq_true rfl) ⟨Nat.le_of_ble_eq_true rfl, Nat.le_of_ble_eq_true rfl⟩ d_Ref_system_74 ⟨Nat.le_of_ble_eq_true rfl, Nat.le_of_ble_eq_true rfl⟩ (fun H locs hP hD hS => ?_)
            refine lv_iinc (v := (nI (j + 1))) (lv' := [(2, .int (nI (j + 1))), (0, .ref aT), (1, .int p0)]) hx hb d_Ref_system_77 hl (k := 0) rfl (nI_1 j) (by decide) rfl (fun ls hl => ?_)
            refine lv_goto (tgt := 33) hx hb d_Ref_system_80 (by decide) ?_
            have ef : f_Ref_system p0 rg rs rl rc rd ra rn rf = f_Ref_system_lp rg rl rc rd rn rf n (j + 1) (f_Ref_fieldSet (nI j) ((ush (rg (ix rd)) ((28 : Int32) - ((4 : Int32) * (nI j)))) &&& (15 : Int32)) rsL) := ef0.trans (by rw [f_Ref_system_lp]; (try dsimp only); rw [if_neg h41])
            exact ih (j + 1) (f_Ref_fieldSet (nI j) ((ush (rg (ix rd)) ((28 : Int32) - ((4 : Int32) * (nI j)))) &&& (15 : Int32)) rsL) _ _ ls (by omega) ef hP hD hS (lv_sub hl [0, 1, 2] rfl)
      exact lp 8 0 rs _ _ ls (by omega) ef hP hD hS (lv_sub hl [0, 1, 2] rfl)
  · refine lv_aload_n hx hb d_Ref_system_6 rfl (lv_at hl 0 rfl) ?_
    refine va_get (D := D) (ci := 11) (v := .ref bG) (C := "MappedProcessorModel") (T := T_Ref) (N := 14) hx hb hB iw_Ref hown hK hP 0 rfl rfl 0 (by decide) (hB _ mw_643) (fun _ h9 => h9) rfl d_Ref_system_7 ?_
    refine lv_aload_n hx hb d_Ref_system_10 rfl (lv_at hl 0 rfl) ?_
    refine va_get (D := D) (ci := 11) (v := .int rd) (C := "MappedProcessorModel") (T := T_Ref) (N := 14) hx hb hB iw_Ref hown hK hP 0 rfl rfl 8 (by decide) (hB _ mw_651) (fun _ h9 => h9) rfl d_Ref_system_11 ?_
    refine lv_aload_n hx hb d_Ref_system_14 rfl (lv_at hl 0 rfl) ?_
    refine va_get (D := D) (ci := 11) (v := .ref bS) (C := "MappedProcessorModel") (T := T_Ref) (N := 14) hx hb hB iw_Ref hown hK hP 0 rfl rfl 1 (by decide) (hB _ mw_644) (fun _ h9 => h9) rfl d_Ref_system_15 ?_
    refine lv_iconst (v := (2 : Int32)) hx hb d_Ref_system_18 (by decide) ?_
    refine k_iald (j := 2) hx hb hK hP 2 1 rfl rfl (by decide) (by unfold vp_in; decide) d_Ref_system_19 ?_
    refine k_iast (j := (ix rd)) hx hb hK hP hD hS 1 0 rfl rfl rfl hrd d_Ref_system_20 (fun H locs hP hD hS => ?_)
    have hP : va_P D kCl [(aT, .inr (11, [.ref bG, .ref bS, .ref bM, .int rl, .int rk, .int rr, .int re, .int rc, .int rd, .int ra, .int rb, .int rn, .int rf, .int rw])), (bG, .inl (dG, 32, .inl (upd rg (ix rd) (rs 2)))), (bS, .inl (dS, 48, .inl rs)), (bM, .inl (dM, 16384, .inl rm))] H := hP
    have hD : va_D A [(aT, .inr (11, [.ref bG, .ref bS, .ref bM, .int rl, .int rk, .int rr, .int re, .int rc, .int rd, .int ra, .int rb, .int rn, .int rf, .int rw])), (bG, .inl (dG, 32, .inl (upd rg (ix rd) (rs 2)))), (bS, .inl (dS, 48, .inl rs)), (bM, .inl (dM, 16384, .inl rm))] := hD
    refine lv_goto (tgt := 141) hx hb d_Ref_system_21 (by decide) ?_
    refine lv_iconst (v := (1 : Int32)) hx hb d_Ref_system_141 (by decide) ?_
    have ef : f_Ref_system p0 rg rs rl rc rd ra rn rf = ((1 : Int32), (upd rg (ix rd) (rs 2)), rs, rl, rn, rf) := by unfold f_Ref_system; (try dsimp only); rw [if_pos h1]
    exact k_zret hx hb hr hlocks hK hP hD hS [0, 1, 2, 3] rfl (by rw [ef] <;> rfl) (by rw [ef] <;> rfl) nb1 d_Ref_system_142
/-! MappedProcessorModel.registerOf(I)I -/
theorem d_Ref_registerOf_0 : decode b_Ref_registerOf 0 = .ok (.iload_n 0, 1) := by decide +kernel
theorem d_Ref_registerOf_1 : decode b_Ref_registerOf 1 = .ok (.iconst 1, 1) := by decide +kernel
theorem d_Ref_registerOf_2 : decode b_Ref_registerOf 2 = .ok (.if_icmp .eq 15, 3) := by decide +kernel
theorem d_Ref_registerOf_5 : decode b_Ref_registerOf 5 = .ok (.iload_n 0, 1) := by decide +kernel
theorem d_Ref_registerOf_6 : decode b_Ref_registerOf 6 = .ok (.bipush 8, 2) := by decide +kernel
theorem d_Ref_registerOf_8 : decode b_Ref_registerOf 8 = .ok (.if_icmp .eq 9, 3) := by decide +kernel
theorem d_Ref_registerOf_11 : decode b_Ref_registerOf 11 = .ok (.iload_n 0, 1) := by decide +kernel
theorem d_Ref_registerOf_12 : decode b_Ref_registerOf 12 = .ok (.bipush 9, 2) := by decide +kernel
theorem d_Ref_registerOf_14 : decode b_Ref_registerOf 14 = .ok (.if_icmp .ne 24, 3) := by decide +kernel
theorem d_Ref_registerOf_17 : decode b_Ref_registerOf 17 = .ok (.iload_n 0, 1) := by decide +kernel
theorem d_Ref_registerOf_18 : decode b_Ref_registerOf 18 = .ok (.iconst 1, 1) := by decide +kernel
theorem d_Ref_registerOf_19 : decode b_Ref_registerOf 19 = .ok (.if_icmp .ne 7, 3) := by decide +kernel
theorem d_Ref_registerOf_22 : decode b_Ref_registerOf 22 = .ok (.iconst 3, 1) := by decide +kernel
theorem d_Ref_registerOf_23 : decode b_Ref_registerOf 23 = .ok (.goto 14, 3) := by decide +kernel
theorem d_Ref_registerOf_26 : decode b_Ref_registerOf 26 = .ok (.iload_n 0, 1) := by decide +kernel
theorem d_Ref_registerOf_27 : decode b_Ref_registerOf 27 = .ok (.bipush 8, 2) := by decide +kernel
theorem d_Ref_registerOf_29 : decode b_Ref_registerOf 29 = .ok (.if_icmp .ne 7, 3) := by decide +kernel
theorem d_Ref_registerOf_32 : decode b_Ref_registerOf 32 = .ok (.iconst 4, 1) := by decide +kernel
theorem d_Ref_registerOf_33 : decode b_Ref_registerOf 33 = .ok (.goto 4, 3) := by decide +kernel
theorem d_Ref_registerOf_36 : decode b_Ref_registerOf 36 = .ok (.iconst 5, 1) := by decide +kernel
theorem d_Ref_registerOf_37 : decode b_Ref_registerOf 37 = .ok (.ireturn, 1) := by decide +kernel
theorem d_Ref_registerOf_38 : decode b_Ref_registerOf 38 = .ok (.iload_n 0, 1) := by decide +kernel
theorem d_Ref_registerOf_39 : decode b_Ref_registerOf 39 = .ok (.bipush 18, 2) := by decide +kernel
theorem d_Ref_registerOf_41 : decode b_Ref_registerOf 41 = .ok (.if_icmp .eq 9, 3) := by decide +kernel
theorem d_Ref_registerOf_44 : decode b_Ref_registerOf 44 = .ok (.iload_n 0, 1) := by decide +kernel
theorem d_Ref_registerOf_45 : decode b_Ref_registerOf 45 = .ok (.bipush 19, 2) := by decide +kernel
theorem d_Ref_registerOf_47 : decode b_Ref_registerOf 47 = .ok (.if_icmp .ne 17, 3) := by decide +kernel
theorem d_Ref_registerOf_50 : decode b_Ref_registerOf 50 = .ok (.iload_n 0, 1) := by decide +kernel
theorem d_Ref_registerOf_51 : decode b_Ref_registerOf 51 = .ok (.bipush 18, 2) := by decide +kernel
theorem d_Ref_registerOf_53 : decode b_Ref_registerOf 53 = .ok (.if_icmp .ne 8, 3) := by decide +kernel
theorem d_Ref_registerOf_56 : decode b_Ref_registerOf 56 = .ok (.bipush 8, 2) := by decide +kernel
theorem d_Ref_registerOf_58 : decode b_Ref_registerOf 58 = .ok (.goto 5, 3) := by decide +kernel
theorem d_Ref_registerOf_61 : decode b_Ref_registerOf 61 = .ok (.bipush 9, 2) := by decide +kernel
theorem d_Ref_registerOf_63 : decode b_Ref_registerOf 63 = .ok (.ireturn, 1) := by decide +kernel
theorem d_Ref_registerOf_64 : decode b_Ref_registerOf 64 = .ok (.iload_n 0, 1) := by decide +kernel
theorem d_Ref_registerOf_65 : decode b_Ref_registerOf 65 = .ok (.bipush 25, 2) := by decide +kernel
theorem d_Ref_registerOf_67 : decode b_Ref_registerOf 67 = .ok (.if_icmp .lt 34, 3) := by decide +kernel
theorem d_Ref_registerOf_70 : decode b_Ref_registerOf 70 = .ok (.iload_n 0, 1) := by decide +kernel
theorem d_Ref_registerOf_71 : decode b_Ref_registerOf 71 = .ok (.bipush 27, 2) := by decide +kernel
theorem d_Ref_registerOf_73 : decode b_Ref_registerOf 73 = .ok (.if_icmp .gt 28, 3) := by decide +kernel
theorem d_Ref_registerOf_76 : decode b_Ref_registerOf 76 = .ok (.iload_n 0, 1) := by decide +kernel
theorem d_Ref_registerOf_77 : decode b_Ref_registerOf 77 = .ok (.bipush 25, 2) := by decide +kernel
theorem d_Ref_registerOf_79 : decode b_Ref_registerOf 79 = .ok (.if_icmp .ne 8, 3) := by decide +kernel
theorem d_Ref_registerOf_82 : decode b_Ref_registerOf 82 = .ok (.bipush 10, 2) := by decide +kernel
theorem d_Ref_registerOf_84 : decode b_Ref_registerOf 84 = .ok (.goto 16, 3) := by decide +kernel
theorem d_Ref_registerOf_87 : decode b_Ref_registerOf 87 = .ok (.iload_n 0, 1) := by decide +kernel
theorem d_Ref_registerOf_88 : decode b_Ref_registerOf 88 = .ok (.bipush 26, 2) := by decide +kernel
theorem d_Ref_registerOf_90 : decode b_Ref_registerOf 90 = .ok (.if_icmp .ne 8, 3) := by decide +kernel
theorem d_Ref_registerOf_93 : decode b_Ref_registerOf 93 = .ok (.bipush 6, 2) := by decide +kernel
theorem d_Ref_registerOf_95 : decode b_Ref_registerOf 95 = .ok (.goto 5, 3) := by decide +kernel
theorem d_Ref_registerOf_98 : decode b_Ref_registerOf 98 = .ok (.bipush 7, 2) := by decide +kernel
theorem d_Ref_registerOf_100 : decode b_Ref_registerOf 100 = .ok (.ireturn, 1) := by decide +kernel
theorem d_Ref_registerOf_101 : decode b_Ref_registerOf 101 = .ok (.iload_n 0, 1) := by decide +kernel
theorem d_Ref_registerOf_102 : decode b_Ref_registerOf 102 = .ok (.sipush 528, 3) := by decide +kernel
theorem d_Ref_registerOf_105 : decode b_Ref_registerOf 105 = .ok (.if_icmp .lt 18, 3) := by decide +kernel
theorem d_Ref_registerOf_108 : decode b_Ref_registerOf 108 = .ok (.iload_n 0, 1) := by decide +kernel
theorem d_Ref_registerOf_109 : decode b_Ref_registerOf 109 = .ok (.sipush 543, 3) := by decide +kernel
theorem d_Ref_registerOf_112 : decode b_Ref_registerOf 112 = .ok (.if_icmp .gt 11, 3) := by decide +kernel
theorem d_Ref_registerOf_115 : decode b_Ref_registerOf 115 = .ok (.iload_n 0, 1) := by decide +kernel
theorem d_Ref_registerOf_116 : decode b_Ref_registerOf 116 = .ok (.sipush 512, 3) := by decide +kernel
theorem d_Ref_registerOf_119 : decode b_Ref_registerOf 119 = .ok (.isub, 1) := by decide +kernel
theorem d_Ref_registerOf_120 : decode b_Ref_registerOf 120 = .ok (.goto 4, 3) := by decide +kernel
theorem d_Ref_registerOf_123 : decode b_Ref_registerOf 123 = .ok (.iconst (-1), 1) := by decide +kernel
theorem d_Ref_registerOf_124 : decode b_Ref_registerOf 124 = .ok (.ireturn, 1) := by decide +kernel
def f_Ref_registerOf (p0 : Int32) : Int32 :=
  if p0 = (1 : Int32) then
    (3 : Int32)
  else
    if p0 = (8 : Int32) then
      (4 : Int32)
    else
      if p0 = (9 : Int32) then
        (5 : Int32)
      else
        if p0 = (18 : Int32) then
          (8 : Int32)
        else
          if p0 = (19 : Int32) then
            (9 : Int32)
          else
            if p0 < (25 : Int32) then
              (if p0 < (528 : Int32) then (-1 : Int32) else (if (543 : Int32) < p0 then (-1 : Int32) else (p0 - (512 : Int32))))
            else
              if (27 : Int32) < p0 then
                (if p0 < (528 : Int32) then (-1 : Int32) else (if (543 : Int32) < p0 then (-1 : Int32) else (p0 - (512 : Int32))))
              else
                (if p0 = (25 : Int32) then (10 : Int32) else (if p0 = (26 : Int32) then (6 : Int32) else (7 : Int32)))
set_option maxHeartbeats 4000000 in
set_option maxRecDepth 100000 in
theorem c_Ref_registerOf (l : Launch) (D : va_G) (p0 : Int32) : kMi l y_Ref_registerOf b_Ref_registerOf 1 (some .int) 0 0 D kCl [] [.int p0] [] (f_Ref_registerOf p0) [] := by
  refine k_entry (Qc := fun A => kQi D kCl [] (f_Ref_registerOf p0) [] A) (lv := [(0, .int p0)]) (by decide) (Nat.le_of_ble_eq_true rfl) rfl ?_
  intro p e s m below meth c A ls hx hb hr hml hB hown hlocks hin hA hK hN hP hD hS hl
  have hown : s.vm.findClass "MappedProcessorModel" = some m.cls := hown
  refine lv_iload_n hx hb d_Ref_registerOf_0 rfl (lv_at hl 0 rfl) ?_
  refine lv_iconst (v := (1 : Int32)) hx hb d_Ref_registerOf_1 (by decide) ?_
  refine lv_icmp_eq (tgt := 17) hx hb d_Ref_registerOf_2 (by decide) (fun (h1 : p0 = (1 : Int32)) => ?_) (fun (h1 : ¬ p0 = (1 : Int32)) => ?_)
  · refine lv_iload_n hx hb d_Ref_registerOf_17 rfl (lv_at hl 0 rfl) ?_
    refine lv_iconst (v := (1 : Int32)) hx hb d_Ref_registerOf_18 (by decide) ?_
    refine lv_icmp_ne (tgt := 26) hx hb d_Ref_registerOf_19 (by decide) (fun (h2 : ¬ p0 = (1 : Int32)) => ?_) (fun (h2 : p0 = (1 : Int32)) => ?_)
    · exact absurd h1 h2
    refine lv_iconst (v := (3 : Int32)) hx hb d_Ref_registerOf_22 (by decide) ?_
    refine lv_goto (tgt := 37) hx hb d_Ref_registerOf_23 (by decide) ?_
    have ef : f_Ref_registerOf p0 = (3 : Int32) := by unfold f_Ref_registerOf; rw [if_pos h1]
    exact k_iret hx hb hr hlocks hK hP hD hS [] rfl rfl (by rw [ef] <;> rfl) d_Ref_registerOf_37
  · refine lv_iload_n hx hb d_Ref_registerOf_5 rfl (lv_at hl 0 rfl) ?_
    refine lv_bipush (v := (8 : Int32)) hx hb d_Ref_registerOf_6 (by decide) ?_
    refine lv_icmp_eq (tgt := 17) hx hb d_Ref_registerOf_8 (by decide) (fun (h3 : p0 = (8 : Int32)) => ?_) (fun (h3 : ¬ p0 = (8 : Int32)) => ?_)
    · refine lv_iload_n hx hb d_Ref_registerOf_17 rfl (lv_at hl 0 rfl) ?_
      refine lv_iconst (v := (1 : Int32)) hx hb d_Ref_registerOf_18 (by decide) ?_
      refine lv_icmp_ne (tgt := 26) hx hb d_Ref_registerOf_19 (by decide) (fun (h4 : ¬ p0 = (1 : Int32)) => ?_) (fun (h4 : p0 = (1 : Int32)) => ?_)
      rotate_left
      · exact absurd h4 h1
      refine lv_iload_n hx hb d_Ref_registerOf_26 rfl (lv_at hl 0 rfl) ?_
      refine lv_bipush (v := (8 : Int32)) hx hb d_Ref_registerOf_27 (by decide) ?_
      refine lv_icmp_ne (tgt := 36) hx hb d_Ref_registerOf_29 (by decide) (fun (h5 : ¬ p0 = (8 : Int32)) => ?_) (fun (h5 : p0 = (8 : Int32)) => ?_)
      · exact absurd h3 h5
      refine lv_iconst (v := (4 : Int32)) hx hb d_Ref_registerOf_32 (by decide) ?_
      refine lv_goto (tgt := 37) hx hb d_Ref_registerOf_33 (by decide) ?_
      have ef : f_Ref_registerOf p0 = (4 : Int32) := by unfold f_Ref_registerOf; rw [if_neg h1, if_pos h3]
      exact k_iret hx hb hr hlocks hK hP hD hS [] rfl rfl (by rw [ef] <;> rfl) d_Ref_registerOf_37
    · refine lv_iload_n hx hb d_Ref_registerOf_11 rfl (lv_at hl 0 rfl) ?_
      refine lv_bipush (v := (9 : Int32)) hx hb d_Ref_registerOf_12 (by decide) ?_
      refine lv_icmp_ne (tgt := 38) hx hb d_Ref_registerOf_14 (by decide) (fun (h6 : ¬ p0 = (9 : Int32)) => ?_) (fun (h6 : p0 = (9 : Int32)) => ?_)
      · refine lv_iload_n hx hb d_Ref_registerOf_38 rfl (lv_at hl 0 rfl) ?_
        refine lv_bipush (v := (18 : Int32)) hx hb d_Ref_registerOf_39 (by decide) ?_
        refine lv_icmp_eq (tgt := 50) hx hb d_Ref_registerOf_41 (by decide) (fun (h7 : p0 = (18 : Int32)) => ?_) (fun (h7 : ¬ p0 = (18 : Int32)) => ?_)
        · refine lv_iload_n hx hb d_Ref_registerOf_50 rfl (lv_at hl 0 rfl) ?_
          refine lv_bipush (v := (18 : Int32)) hx hb d_Ref_registerOf_51 (by decide) ?_
          refine lv_icmp_ne (tgt := 61) hx hb d_Ref_registerOf_53 (by decide) (fun (h8 : ¬ p0 = (18 : Int32)) => ?_) (fun (h8 : p0 = (18 : Int32)) => ?_)
          · exact absurd h7 h8
          refine lv_bipush (v := (8 : Int32)) hx hb d_Ref_registerOf_56 (by decide) ?_
          refine lv_goto (tgt := 63) hx hb d_Ref_registerOf_58 (by decide) ?_
          have ef : f_Ref_registerOf p0 = (8 : Int32) := by unfold f_Ref_registerOf; rw [if_neg h1, if_neg h3, if_neg h6, if_pos h7]
          exact k_iret hx hb hr hlocks hK hP hD hS [] rfl rfl (by rw [ef] <;> rfl) d_Ref_registerOf_63
        · refine lv_iload_n hx hb d_Ref_registerOf_44 rfl (lv_at hl 0 rfl) ?_
          refine lv_bipush (v := (19 : Int32)) hx hb d_Ref_registerOf_45 (by decide) ?_
          refine lv_icmp_ne (tgt := 64) hx hb d_Ref_registerOf_47 (by decide) (fun (h9 : ¬ p0 = (19 : Int32)) => ?_) (fun (h9 : p0 = (19 : Int32)) => ?_)
          · refine lv_iload_n hx hb d_Ref_registerOf_64 rfl (lv_at hl 0 rfl) ?_
            refine lv_bipush (v := (25 : Int32)) hx hb d_Ref_registerOf_65 (by decide) ?_
            refine lv_icmp_lt (tgt := 101) hx hb d_Ref_registerOf_67 (by decide) (fun (h10 : p0 < (25 : Int32)) => ?_) (fun (h10 : ¬ p0 < (25 : Int32)) => ?_)
            · refine lv_iload_n hx hb d_Ref_registerOf_101 rfl (lv_at hl 0 rfl) ?_
              refine lv_sipush (v := (528 : Int32)) hx hb d_Ref_registerOf_102 (by decide) ?_
              refine k_join2 (c0 := p0 < (528 : Int32)) (x1 := (-1 : Int32)) (x2 := (if (543 : Int32) < p0 then (-1 : Int32) else (p0 - (512 : Int32)))) (rest := []) 124 ?_ (fun k12 k13 => ?_)
              rotate_left
              · refine lv_icmp_lt (tgt := 123) hx hb d_Ref_registerOf_105 (by decide) (fun (h11 : p0 < (528 : Int32)) => ?_) (fun (h11 : ¬ p0 < (528 : Int32)) => ?_)
                · refine lv_iconst (v := (-1 : Int32)) hx hb d_Ref_registerOf_123 (by decide) ?_
                  exact k12 h11
                · refine lv_iload_n hx hb d_Ref_registerOf_108 rfl (lv_at hl 0 rfl) ?_
                  refine lv_sipush (v := (543 : Int32)) hx hb d_Ref_registerOf_109 (by decide) ?_
                  refine k_join2 (c0 := (543 : Int32) < p0) (x1 := (-1 : Int32)) (x2 := (p0 - (512 : Int32))) (rest := []) 124 ?_ (fun k15 k16 => ?_)
                  rotate_left
                  · refine lv_icmp_gt (tgt := 123) hx hb d_Ref_registerOf_112 (by decide) (fun (h14 : (543 : Int32) < p0) => ?_) (fun (h14 : ¬ (543 : Int32) < p0) => ?_)
                    · refine lv_iconst (v := (-1 : Int32)) hx hb d_Ref_registerOf_123 (by decide) ?_
                      exact k15 h14
                    · refine lv_iload_n hx hb d_Ref_registerOf_115 rfl (lv_at hl 0 rfl) ?_
                      refine lv_sipush (v := (512 : Int32)) hx hb d_Ref_registerOf_116 (by decide) ?_
                      refine lv_isub hx hb d_Ref_registerOf_119 ?_
                      refine lv_goto (tgt := 124) hx hb d_Ref_registerOf_120 (by decide) ?_
                      exact k16 h14
                  exact k13 h11
              have ef : f_Ref_registerOf p0 = (if p0 < (528 : Int32) then (-1 : Int32) else (if (543 : Int32) < p0 then (-1 : Int32) else (p0 - (512 : Int32)))) := by unfold f_Ref_registerOf; rw [if_neg h1, if_neg h3, if_neg h6, if_neg h7, if_neg h9, if_pos h10]
              exact k_iret hx hb hr hlocks hK hP hD hS [] rfl rfl (by rw [ef] <;> rfl) d_Ref_registerOf_124
            · refine lv_iload_n hx hb d_Ref_registerOf_70 rfl (lv_at hl 0 rfl) ?_
              refine lv_bipush (v := (27 : Int32)) hx hb d_Ref_registerOf_71 (by decide) ?_
              refine lv_icmp_gt (tgt := 101) hx hb d_Ref_registerOf_73 (by decide) (fun (h21 : (27 : Int32) < p0) => ?_) (fun (h21 : ¬ (27 : Int32) < p0) => ?_)
              · refine lv_iload_n hx hb d_Ref_registerOf_101 rfl (lv_at hl 0 rfl) ?_
                refine lv_sipush (v := (528 : Int32)) hx hb d_Ref_registerOf_102 (by decide) ?_
                refine k_join2 (c0 := p0 < (528 : Int32)) (x1 := (-1 : Int32)) (x2 := (if (543 : Int32) < p0 then (-1 : Int32) else (p0 - (512 : Int32)))) (rest := []) 124 ?_ (fun k23 k24 => ?_)
                rotate_left
                · refine lv_icmp_lt (tgt := 123) hx hb d_Ref_registerOf_105 (by decide) (fun (h22 : p0 < (528 : Int32)) => ?_) (fun (h22 : ¬ p0 < (528 : Int32)) => ?_)
                  · refine lv_iconst (v := (-1 : Int32)) hx hb d_Ref_registerOf_123 (by decide) ?_
                    exact k23 h22
                  · refine lv_iload_n hx hb d_Ref_registerOf_108 rfl (lv_at hl 0 rfl) ?_
                    refine lv_sipush (v := (543 : Int32)) hx hb d_Ref_registerOf_109 (by decide) ?_
                    refine k_join2 (c0 := (543 : Int32) < p0) (x1 := (-1 : Int32)) (x2 := (p0 - (512 : Int32))) (rest := []) 124 ?_ (fun k26 k27 => ?_)
                    rotate_left
                    · refine lv_icmp_gt (tgt := 123) hx hb d_Ref_registerOf_112 (by decide) (fun (h25 : (543 : Int32) < p0) => ?_) (fun (h25 : ¬ (543 : Int32) < p0) => ?_)
                      · refine lv_iconst (v := (-1 : Int32)) hx hb d_Ref_registerOf_123 (by decide) ?_
                        exact k26 h25
                      · refine lv_iload_n hx hb d_Ref_registerOf_115 rfl (lv_at hl 0 rfl) ?_
                        refine lv_sipush (v := (512 : Int32)) hx hb d_Ref_registerOf_116 (by decide) ?_
                        refine lv_isub hx hb d_Ref_registerOf_119 ?_
                        refine lv_goto (tgt := 124) hx hb d_Ref_registerOf_120 (by decide) ?_
                        exact k27 h25
                    exact k24 h22
                have ef : f_Ref_registerOf p0 = (if p0 < (528 : Int32) then (-1 : Int32) else (if (543 : Int32) < p0 then (-1 : Int32) else (p0 - (512 : Int32)))) := by unfold f_Ref_registerOf; rw [if_neg h1, if_neg h3, if_neg h6, if_neg h7, if_neg h9, if_neg h10, if_pos h21]
                exact k_iret hx hb hr hlocks hK hP hD hS [] rfl rfl (by rw [ef] <;> rfl) d_Ref_registerOf_124
              · refine lv_iload_n hx hb d_Ref_registerOf_76 rfl (lv_at hl 0 rfl) ?_
                refine lv_bipush (v := (25 : Int32)) hx hb d_Ref_registerOf_77 (by decide) ?_
                refine k_join2 (c0 := p0 = (25 : Int32)) (x1 := (10 : Int32)) (x2 := (if p0 = (26 : Int32) then (6 : Int32) else (7 : Int32))) (rest := []) 100 ?_ (fun k33 k34 => ?_)
                rotate_left
                · refine lv_icmp_ne (tgt := 87) hx hb d_Ref_registerOf_79 (by decide) (fun (h32 : ¬ p0 = (25 : Int32)) => ?_) (fun (h32 : p0 = (25 : Int32)) => ?_)
                  · refine lv_iload_n hx hb d_Ref_registerOf_87 rfl (lv_at hl 0 rfl) ?_
                    refine lv_bipush (v := (26 : Int32)) hx hb d_Ref_registerOf_88 (by decide) ?_
                    refine k_join2 (c0 := p0 = (26 : Int32)) (x1 := (6 : Int32)) (x2 := (7 : Int32)) (rest := []) 100 ?_ (fun k36 k37 => ?_)
                    rotate_left
                    · refine lv_icmp_ne (tgt := 98) hx hb d_Ref_registerOf_90 (by decide) (fun (h35 : ¬ p0 = (26 : Int32)) => ?_) (fun (h35 : p0 = (26 : Int32)) => ?_)
                      · refine lv_bipush (v := (7 : Int32)) hx hb d_Ref_registerOf_98 (by decide) ?_
                        exact k37 h35
                      · refine lv_bipush (v := (6 : Int32)) hx hb d_Ref_registerOf_93 (by decide) ?_
                        refine lv_goto (tgt := 100) hx hb d_Ref_registerOf_95 (by decide) ?_
                        exact k36 h35
                    exact k34 h32
                  · refine lv_bipush (v := (10 : Int32)) hx hb d_Ref_registerOf_82 (by decide) ?_
                    refine lv_goto (tgt := 100) hx hb d_Ref_registerOf_84 (by decide) ?_
                    exact k33 h32
                have ef : f_Ref_registerOf p0 = (if p0 = (25 : Int32) then (10 : Int32) else (if p0 = (26 : Int32) then (6 : Int32) else (7 : Int32))) := by unfold f_Ref_registerOf; rw [if_neg h1, if_neg h3, if_neg h6, if_neg h7, if_neg h9, if_neg h10, if_neg h21]
                exact k_iret hx hb hr hlocks hK hP hD hS [] rfl rfl (by rw [ef] <;> rfl) d_Ref_registerOf_100
          · refine lv_iload_n hx hb d_Ref_registerOf_50 rfl (lv_at hl 0 rfl) ?_
            refine lv_bipush (v := (18 : Int32)) hx hb d_Ref_registerOf_51 (by decide) ?_
            refine lv_icmp_ne (tgt := 61) hx hb d_Ref_registerOf_53 (by decide) (fun (h42 : ¬ p0 = (18 : Int32)) => ?_) (fun (h42 : p0 = (18 : Int32)) => ?_)
            rotate_left
            · exact absurd h42 h7
            refine lv_bipush (v := (9 : Int32)) hx hb d_Ref_registerOf_61 (by decide) ?_
            have ef : f_Ref_registerOf p0 = (9 : Int32) := by unfold f_Ref_registerOf; rw [if_neg h1, if_neg h3, if_neg h6, if_neg h7, if_pos h9]
            exact k_iret hx hb hr hlocks hK hP hD hS [] rfl rfl (by rw [ef] <;> rfl) d_Ref_registerOf_63
      · refine lv_iload_n hx hb d_Ref_registerOf_17 rfl (lv_at hl 0 rfl) ?_
        refine lv_iconst (v := (1 : Int32)) hx hb d_Ref_registerOf_18 (by decide) ?_
        refine lv_icmp_ne (tgt := 26) hx hb d_Ref_registerOf_19 (by decide) (fun (h43 : ¬ p0 = (1 : Int32)) => ?_) (fun (h43 : p0 = (1 : Int32)) => ?_)
        rotate_left
        · exact absurd h43 h1
        refine lv_iload_n hx hb d_Ref_registerOf_26 rfl (lv_at hl 0 rfl) ?_
        refine lv_bipush (v := (8 : Int32)) hx hb d_Ref_registerOf_27 (by decide) ?_
        refine lv_icmp_ne (tgt := 36) hx hb d_Ref_registerOf_29 (by decide) (fun (h44 : ¬ p0 = (8 : Int32)) => ?_) (fun (h44 : p0 = (8 : Int32)) => ?_)
        rotate_left
        · exact absurd h44 h3
        refine lv_iconst (v := (5 : Int32)) hx hb d_Ref_registerOf_36 (by decide) ?_
        have ef : f_Ref_registerOf p0 = (5 : Int32) := by unfold f_Ref_registerOf; rw [if_neg h1, if_neg h3, if_pos h6]
        exact k_iret hx hb hr hlocks hK hP hD hS [] rfl rfl (by rw [ef] <;> rfl) d_Ref_registerOf_37
/-! MappedProcessorModel.specials(I)Z -/
theorem d_Ref_specials_0 : decode b_Ref_specials 0 = .ok (.iload_n 1, 1) := by decide +kernel
theorem d_Ref_specials_1 : decode b_Ref_specials 1 = .ok (.sipush 339, 3) := by decide +kernel
theorem d_Ref_specials_4 : decode b_Ref_specials 4 = .ok (.if_icmp .eq 12, 3) := by decide +kernel
theorem d_Ref_specials_7 : decode b_Ref_specials 7 = .ok (.iload_n 1, 1) := by decide +kernel
theorem d_Ref_specials_8 : decode b_Ref_specials 8 = .ok (.sipush 467, 3) := by decide +kernel
theorem d_Ref_specials_11 : decode b_Ref_specials 11 = .ok (.if_icmp .eq 5, 3) := by decide +kernel
theorem d_Ref_specials_14 : decode b_Ref_specials 14 = .ok (.iconst 0, 1) := by decide +kernel
theorem d_Ref_specials_15 : decode b_Ref_specials 15 = .ok (.ireturn, 1) := by decide +kernel
theorem d_Ref_specials_16 : decode b_Ref_specials 16 = .ok (.aload_n 0, 1) := by decide +kernel
theorem d_Ref_specials_17 : decode b_Ref_specials 17 = .ok (.getfield 88, 3) := by decide +kernel
theorem d_Ref_specials_20 : decode b_Ref_specials 20 = .ok (.bipush 32, 2) := by decide +kernel
theorem d_Ref_specials_22 : decode b_Ref_specials 22 = .ok (.imul, 1) := by decide +kernel
theorem d_Ref_specials_23 : decode b_Ref_specials 23 = .ok (.aload_n 0, 1) := by decide +kernel
theorem d_Ref_specials_24 : decode b_Ref_specials 24 = .ok (.getfield 85, 3) := by decide +kernel
theorem d_Ref_specials_27 : decode b_Ref_specials 27 = .ok (.iadd, 1) := by decide +kernel
theorem d_Ref_specials_28 : decode b_Ref_specials 28 = .ok (.invokestatic 210, 3) := by decide +kernel
theorem d_Ref_specials_31 : decode b_Ref_specials 31 = .ok (.istore_n 2, 1) := by decide +kernel
theorem d_Ref_specials_32 : decode b_Ref_specials 32 = .ok (.iload_n 2, 1) := by decide +kernel
theorem d_Ref_specials_33 : decode b_Ref_specials 33 = .ok (.ifCond .ge 10, 3) := by decide +kernel
theorem d_Ref_specials_36 : decode b_Ref_specials 36 = .ok (.aload_n 0, 1) := by decide +kernel
theorem d_Ref_specials_37 : decode b_Ref_specials 37 = .ok (.invokevirtual 145, 3) := by decide +kernel
theorem d_Ref_specials_40 : decode b_Ref_specials 40 = .ok (.goto 90, 3) := by decide +kernel
theorem d_Ref_specials_43 : decode b_Ref_specials 43 = .ok (.iload_n 2, 1) := by decide +kernel
theorem d_Ref_specials_44 : decode b_Ref_specials 44 = .ok (.iconst 3, 1) := by decide +kernel
theorem d_Ref_specials_45 : decode b_Ref_specials 45 = .ok (.if_icmp .eq 20, 3) := by decide +kernel
theorem d_Ref_specials_48 : decode b_Ref_specials 48 = .ok (.iload_n 2, 1) := by decide +kernel
theorem d_Ref_specials_49 : decode b_Ref_specials 49 = .ok (.iconst 4, 1) := by decide +kernel
theorem d_Ref_specials_50 : decode b_Ref_specials 50 = .ok (.if_icmp .eq 15, 3) := by decide +kernel
theorem d_Ref_specials_53 : decode b_Ref_specials 53 = .ok (.iload_n 2, 1) := by decide +kernel
theorem d_Ref_specials_54 : decode b_Ref_specials 54 = .ok (.iconst 5, 1) := by decide +kernel
theorem d_Ref_specials_55 : decode b_Ref_specials 55 = .ok (.if_icmp .eq 10, 3) := by decide +kernel
theorem d_Ref_specials_58 : decode b_Ref_specials 58 = .ok (.aload_n 0, 1) := by decide +kernel
theorem d_Ref_specials_59 : decode b_Ref_specials 59 = .ok (.invokevirtual 165, 3) := by decide +kernel
theorem d_Ref_specials_62 : decode b_Ref_specials 62 = .ok (.ifCond .ne 68, 3) := by decide +kernel
theorem d_Ref_specials_65 : decode b_Ref_specials 65 = .ok (.aload_n 0, 1) := by decide +kernel
theorem d_Ref_specials_66 : decode b_Ref_specials 66 = .ok (.getfield 7, 3) := by decide +kernel
theorem d_Ref_specials_69 : decode b_Ref_specials 69 = .ok (.aload_n 0, 1) := by decide +kernel
theorem d_Ref_specials_70 : decode b_Ref_specials 70 = .ok (.getfield 82, 3) := by decide +kernel
theorem d_Ref_specials_73 : decode b_Ref_specials 73 = .ok (.iload_n 1, 1) := by decide +kernel
theorem d_Ref_specials_74 : decode b_Ref_specials 74 = .ok (.sipush 339, 3) := by decide +kernel
theorem d_Ref_specials_77 : decode b_Ref_specials 77 = .ok (.if_icmp .ne 12, 3) := by decide +kernel
theorem d_Ref_specials_80 : decode b_Ref_specials 80 = .ok (.aload_n 0, 1) := by decide +kernel
theorem d_Ref_specials_81 : decode b_Ref_specials 81 = .ok (.getfield 13, 3) := by decide +kernel
theorem d_Ref_specials_84 : decode b_Ref_specials 84 = .ok (.iload_n 2, 1) := by decide +kernel
theorem d_Ref_specials_85 : decode b_Ref_specials 85 = .ok (.iaload, 1) := by decide +kernel
theorem d_Ref_specials_86 : decode b_Ref_specials 86 = .ok (.goto 12, 3) := by decide +kernel
theorem d_Ref_specials_89 : decode b_Ref_specials 89 = .ok (.aload_n 0, 1) := by decide +kernel
theorem d_Ref_specials_90 : decode b_Ref_specials 90 = .ok (.getfield 7, 3) := by decide +kernel
theorem d_Ref_specials_93 : decode b_Ref_specials 93 = .ok (.aload_n 0, 1) := by decide +kernel
theorem d_Ref_specials_94 : decode b_Ref_specials 94 = .ok (.getfield 82, 3) := by decide +kernel
theorem d_Ref_specials_97 : decode b_Ref_specials 97 = .ok (.iaload, 1) := by decide +kernel
theorem d_Ref_specials_98 : decode b_Ref_specials 98 = .ok (.iastore, 1) := by decide +kernel
theorem d_Ref_specials_99 : decode b_Ref_specials 99 = .ok (.aload_n 0, 1) := by decide +kernel
theorem d_Ref_specials_100 : decode b_Ref_specials 100 = .ok (.getfield 13, 3) := by decide +kernel
theorem d_Ref_specials_103 : decode b_Ref_specials 103 = .ok (.iload_n 2, 1) := by decide +kernel
theorem d_Ref_specials_104 : decode b_Ref_specials 104 = .ok (.iload_n 1, 1) := by decide +kernel
theorem d_Ref_specials_105 : decode b_Ref_specials 105 = .ok (.sipush 467, 3) := by decide +kernel
theorem d_Ref_specials_108 : decode b_Ref_specials 108 = .ok (.if_icmp .ne 15, 3) := by decide +kernel
theorem d_Ref_specials_111 : decode b_Ref_specials 111 = .ok (.aload_n 0, 1) := by decide +kernel
theorem d_Ref_specials_112 : decode b_Ref_specials 112 = .ok (.getfield 7, 3) := by decide +kernel
theorem d_Ref_specials_115 : decode b_Ref_specials 115 = .ok (.aload_n 0, 1) := by decide +kernel
theorem d_Ref_specials_116 : decode b_Ref_specials 116 = .ok (.getfield 82, 3) := by decide +kernel
theorem d_Ref_specials_119 : decode b_Ref_specials 119 = .ok (.iaload, 1) := by decide +kernel
theorem d_Ref_specials_120 : decode b_Ref_specials 120 = .ok (.goto 9, 3) := by decide +kernel
theorem d_Ref_specials_123 : decode b_Ref_specials 123 = .ok (.aload_n 0, 1) := by decide +kernel
theorem d_Ref_specials_124 : decode b_Ref_specials 124 = .ok (.getfield 13, 3) := by decide +kernel
theorem d_Ref_specials_127 : decode b_Ref_specials 127 = .ok (.iload_n 2, 1) := by decide +kernel
theorem d_Ref_specials_128 : decode b_Ref_specials 128 = .ok (.iaload, 1) := by decide +kernel
theorem d_Ref_specials_129 : decode b_Ref_specials 129 = .ok (.iastore, 1) := by decide +kernel
theorem d_Ref_specials_130 : decode b_Ref_specials 130 = .ok (.iconst 1, 1) := by decide +kernel
theorem d_Ref_specials_131 : decode b_Ref_specials 131 = .ok (.ireturn, 1) := by decide +kernel
def f_Ref_specials (p0 : Int32) (rg : Nat → Int32) (rs : Nat → Int32) (rl : Int32) (rd : Int32) (ra : Int32) (rb : Int32) (rn : Int32) (rf : Int32) : Int32 × (Nat → Int32) × (Nat → Int32) × Int32 × Int32 × Int32 :=
  if p0 = (339 : Int32) then
    if (0 : Int32) ≤ (f_Ref_registerOf ((rb * (32 : Int32)) + ra)) then
      if (f_Ref_registerOf ((rb * (32 : Int32)) + ra)) = (3 : Int32) then
        ((1 : Int32), (upd rg (ix rd) (rs (ix (f_Ref_registerOf ((rb * (32 : Int32)) + ra))))), (upd rs (ix (f_Ref_registerOf ((rb * (32 : Int32)) + ra))) (if p0 = (467 : Int32) then ((upd rg (ix rd) (rs (ix (f_Ref_registerOf ((rb * (32 : Int32)) + ra))))) (ix rd)) else (rs (ix (f_Ref_registerOf ((rb * (32 : Int32)) + ra)))))), rl, rn, rf)
      else
        if (f_Ref_registerOf ((rb * (32 : Int32)) + ra)) = (4 : Int32) then
          ((1 : Int32), (upd rg (ix rd) (rs (ix (f_Ref_registerOf ((rb * (32 : Int32)) + ra))))), (upd rs (ix (f_Ref_registerOf ((rb * (32 : Int32)) + ra))) (if p0 = (467 : Int32) then ((upd rg (ix rd) (rs (ix (f_Ref_registerOf ((rb * (32 : Int32)) + ra))))) (ix rd)) else (rs (ix (f_Ref_registerOf ((rb * (32 : Int32)) + ra)))))), rl, rn, rf)
        else
          if (f_Ref_registerOf ((rb * (32 : Int32)) + ra)) = (5 : Int32) then
            ((1 : Int32), (upd rg (ix rd) (rs (ix (f_Ref_registerOf ((rb * (32 : Int32)) + ra))))), (upd rs (ix (f_Ref_registerOf ((rb * (32 : Int32)) + ra))) (if p0 = (467 : Int32) then ((upd rg (ix rd) (rs (ix (f_Ref_registerOf ((rb * (32 : Int32)) + ra))))) (ix rd)) else (rs (ix (f_Ref_registerOf ((rb * (32 : Int32)) + ra)))))), rl, rn, rf)
          else
            let t39 := (f_Ref_barred rs rl rn rf)
            if t39.1 = (0 : Int32) then
              ((1 : Int32), (upd rg (ix rd) (t39.2.1 (ix (f_Ref_registerOf ((rb * (32 : Int32)) + ra))))), (upd t39.2.1 (ix (f_Ref_registerOf ((rb * (32 : Int32)) + ra))) (if p0 = (467 : Int32) then ((upd rg (ix rd) (t39.2.1 (ix (f_Ref_registerOf ((rb * (32 : Int32)) + ra))))) (ix rd)) else (t39.2.1 (ix (f_Ref_registerOf ((rb * (32 : Int32)) + ra)))))), t39.2.2.1, t39.2.2.2.1, t39.2.2.2.2)
            else
              ((1 : Int32), rg, t39.2.1, t39.2.2.1, t39.2.2.2.1, t39.2.2.2.2)
    else
      let t50 := (f_Ref_unlisted rs)
      ((1 : Int32), rg, t50.1, t50.2.1, t50.2.2.1, t50.2.2.2)
  else
    if p0 = (467 : Int32) then
      if (0 : Int32) ≤ (f_Ref_registerOf ((rb * (32 : Int32)) + ra)) then
        if (f_Ref_registerOf ((rb * (32 : Int32)) + ra)) = (3 : Int32) then
          ((1 : Int32), (upd rg (ix rd) (rg (ix rd))), (upd rs (ix (f_Ref_registerOf ((rb * (32 : Int32)) + ra))) ((upd rg (ix rd) (rg (ix rd))) (ix rd))), rl, rn, rf)
        else
          if (f_Ref_registerOf ((rb * (32 : Int32)) + ra)) = (4 : Int32) then
            ((1 : Int32), (upd rg (ix rd) (rg (ix rd))), (upd rs (ix (f_Ref_registerOf ((rb * (32 : Int32)) + ra))) ((upd rg (ix rd) (rg (ix rd))) (ix rd))), rl, rn, rf)
          else
            if (f_Ref_registerOf ((rb * (32 : Int32)) + ra)) = (5 : Int32) then
              ((1 : Int32), (upd rg (ix rd) (rg (ix rd))), (upd rs (ix (f_Ref_registerOf ((rb * (32 : Int32)) + ra))) ((upd rg (ix rd) (rg (ix rd))) (ix rd))), rl, rn, rf)
            else
              let t77 := (f_Ref_barred rs rl rn rf)
              if t77.1 = (0 : Int32) then
                ((1 : Int32), (upd rg (ix rd) (rg (ix rd))), (upd t77.2.1 (ix (f_Ref_registerOf ((rb * (32 : Int32)) + ra))) ((upd rg (ix rd) (rg (ix rd))) (ix rd))), t77.2.2.1, t77.2.2.2.1, t77.2.2.2.2)
              else
                ((1 : Int32), rg, t77.2.1, t77.2.2.1, t77.2.2.2.1, t77.2.2.2.2)
      else
        let t84 := (f_Ref_unlisted rs)
        ((1 : Int32), rg, t84.1, t84.2.1, t84.2.2.1, t84.2.2.2)
    else
      ((0 : Int32), rg, rs, rl, rn, rf)
set_option maxHeartbeats 4000000 in
set_option maxRecDepth 100000 in
theorem ib_Ref_specials (p0 : Int32) (rg : Nat → Int32) (rs : Nat → Int32) (rl : Int32) (rd : Int32) (ra : Int32) (rb : Int32) (rn : Int32) (rf : Int32) : isB (f_Ref_specials p0 rg rs rl rd ra rb rn rf).1 := by
  unfold f_Ref_specials
  try dsimp only
  repeat' (first | refine ib_ite ?_ ?_ | refine ib_ite0 ?_ ?_ | with_reducible exact ib0 | with_reducible exact ib1 | with_reducible exact ib_Ref_barred _ _ _ _ | (dsimp only; first | exact ib0 | exact ib1))
theorem nb_Ref_specials (p0 : Int32) (rg : Nat → Int32) (rs : Nat → Int32) (rl : Int32) (rd : Int32) (ra : Int32) (rb : Int32) (rn : Int32) (rf : Int32) : narrow .boolean (.int (f_Ref_specials p0 rg rs rl rd ra rb rn rf).1) = .int (f_Ref_specials p0 rg rs rl rd ra rb rn rf).1 := nb_of (ib_Ref_specials p0 rg rs rl rd ra rb rn rf)
theorem regof_lt (p0 : Int32) : f_Ref_registerOf p0 < 48 := by
  unfold f_Ref_registerOf
  repeat' (first | with_reducible exact sp_512 _ | with_reducible refine lt_ite ?_ ?_ | decide)
theorem ix_regof {p0 : Int32} (h : 0 ≤ f_Ref_registerOf p0) : vp_in (f_Ref_registerOf p0) 48 := ix_rngp h (regof_lt p0)
def rq_Ref_specials (z : Int32 × (Nat → Int32) × (Nat → Int32) × Int32 × Int32 × Int32) : Prop := isB z.2.2.2.2.2
set_option maxHeartbeats 4000000 in
set_option maxRecDepth 100000 in
theorem rq0_Ref_specials (p0 : Int32) (rg : Nat → Int32) (rs : Nat → Int32) (rl : Int32) (rd : Int32) (ra : Int32) (rb : Int32) (rn : Int32) (rf : Int32) (h : isB rf) : rq_Ref_specials (f_Ref_specials p0 rg rs rl rd ra rb rn rf) := by
  unfold f_Ref_specials
  try dsimp only
  repeat' (with_reducible refine pred_ite ?_ ?_)
  all_goals (unfold rq_Ref_specials)
  all_goals (try dsimp only)
  all_goals first | with_reducible exact h | with_reducible exact ib0 | with_reducible exact ib1 | with_reducible exact rb_Ref_unlisted _ | with_reducible exact rb_Ref_barred _ _ _ _ (by first | with_reducible exact h | with_reducible exact ib0 | with_reducible exact ib1 | with_reducible exact rb_Ref_unlisted _ | with_reducible exact rb_Ref_barred _ _ _ _ (by first | with_reducible exact h | with_reducible exact ib0 | with_reducible exact ib1 | with_reducible exact rb_Ref_unlisted _))
theorem rb_Ref_specials (p0 : Int32) (rg : Nat → Int32) (rs : Nat → Int32) (rl : Int32) (rd : Int32) (ra : Int32) (rb : Int32) (rn : Int32) (rf : Int32) (h : isB rf) : isB (f_Ref_specials p0 rg rs rl rd ra rb rn rf).2.2.2.2.2 := rq0_Ref_specials p0 rg rs rl rd ra rb rn rf h
set_option maxHeartbeats 4000000 in
set_option maxRecDepth 100000 in
theorem c_Ref_specials (l : Launch) (D : va_G) (aT bG bS bM : Nat) (dG dS dM : ClassId) (rg : Nat → Int32) (rs : Nat → Int32) (rm : Nat → Int32) (rl : Int32) (rk : Int32) (rr : Int32) (re : Int32) (rc : Int32) (rd : Int32) (ra : Int32) (rb : Int32) (rn : Int32) (rf : Int32) (rw : Int32) (p0 : Int32) (hra : vp_in ra 32) (hrd : vp_in rd 32) (hrb : vp_in rb 32) : kMi l y_Ref_specials b_Ref_specials 3 (some .boolean) 2 42 D kCl [(dG, .int), (dS, .int), (dM, .int)] [.ref aT, .int p0] [(aT, .inr (11, [.ref bG, .ref bS, .ref bM, .int rl, .int rk, .int rr, .int re, .int rc, .int rd, .int ra, .int rb, .int rn, .int rf, .int rw])), (bG, .inl (dG, 32, .inl rg)), (bS, .inl (dS, 48, .inl rs)), (bM, .inl (dM, 16384, .inl rm))] (f_Ref_specials p0 rg rs rl rd ra rb rn rf).1 [(aT, .inr (11, [.ref bG, .ref bS, .ref bM, .int (f_Ref_specials p0 rg rs rl rd ra rb rn rf).2.2.2.1, .int rk, .int rr, .int re, .int rc, .int rd, .int ra, .int rb, .int (f_Ref_specials p0 rg rs rl rd ra rb rn rf).2.2.2.2.1, .int (f_Ref_specials p0 rg rs rl rd ra rb rn rf).2.2.2.2.2, .int rw])), (bG, .inl (dG, 32, .inl (f_Ref_specials p0 rg rs rl rd ra rb rn rf).2.1)), (bS, .inl (dS, 48, .inl (f_Ref_specials p0 rg rs rl rd ra rb rn rf).2.2.1)), (bM, .inl (dM, 16384, .inl rm))] := by
  refine k_entry (Qc := fun A => kQi D kCl [(dG, .int), (dS, .int), (dM, .int)] (f_Ref_specials p0 rg rs rl rd ra rb rn rf).1 [(aT, .inr (11, [.ref bG, .ref bS, .ref bM, .int (f_Ref_specials p0 rg rs rl rd ra rb rn rf).2.2.2.1, .int rk, .int rr, .int re, .int rc, .int rd, .int ra, .int rb, .int (f_Ref_specials p0 rg rs rl rd ra rb rn rf).2.2.2.2.1, .int (f_Ref_specials p0 rg rs rl rd ra rb rn rf).2.2.2.2.2, .int rw])), (bG, .inl (dG, 32, .inl (f_Ref_specials p0 rg rs rl rd ra rb rn rf).2.1)), (bS, .inl (dS, 48, .inl (f_Ref_specials p0 rg rs rl rd ra rb rn rf).2.2.1)), (bM, .inl (dM, 16384, .inl rm))] A) (lv := [(0, .ref aT), (1, .int p0)]) (by decide) (Nat.le_of_ble_eq_true rfl) rfl ?_
  intro p e s m below meth c A ls hx hb hr hml hB hown hlocks hin hA hK hN hP hD hS hl
  have hown : s.vm.findClass "MappedProcessorModel" = some m.cls := hown
  refine lv_iload_n hx hb d_Ref_specials_0 rfl (lv_at hl 1 rfl) ?_
  refine lv_sipush (v := (339 : Int32)) hx hb d_Ref_specials_1 (by decide) ?_
  refine lv_icmp_eq (tgt := 16) hx hb d_Ref_specials_4 (by decide) (fun (h1 : p0 = (339 : Int32)) => ?_) (fun (h1 : ¬ p0 = (339 : Int32)) => ?_)
  · refine lv_aload_n hx hb d_Ref_specials_16 rfl (lv_at hl 0 rfl) ?_
    refine va_get (D := D) (ci := 11) (v := .int rb) (C := "MappedProcessorModel") (T := T_Ref) (N := 14) hx hb hB iw_Ref hown hK hP 0 rfl rfl 10 (by decide) (hB _ mw_653) (fun _ h9 => h9) rfl d_Ref_specials_17 ?_
    refine lv_bipush (v := (32 : Int32)) hx hb d_Ref_specials_20 (by decide) ?_
    refine lv_imul hx hb d_Ref_specials_22 ?_
    refine lv_aload_n hx hb d_Ref_specials_23 rfl (lv_at hl 0 rfl) ?_
    refine va_get (D := D) (ci := 11) (v := .int ra) (C := "MappedProcessorModel") (T := T_Ref) (N := 14) hx hb hB iw_Ref hown hK hP 0 rfl rfl 9 (by decide) (hB _ mw_652) (fun _ h9 => h9) rfl d_Ref_specials_24 ?_
    refine lv_iadd hx hb d_Ref_specials_27 ?_
    refine k_cSi (As := [.int ((rb * (32 : Int32)) + ra)]) (rest := []) (wr := [(aT, .inr (11, [.ref bG, .ref bS, .ref bM, .int rl, .int rk, .int rr, .int re, .int rc, .int rd, .int ra, .int rb, .int rn, .int rf, .int rw])), (bG, .inl (dG, 32, .inl rg)), (bS, .inl (dS, 48, .inl rs)), (bM, .inl (dM, 16384, .inl rm))]) (wj := [(aT, .inr (11, [.ref bG, .ref bS, .ref bM, .int rl, .int rk, .int rr, .int re, .int rc, .int rd, .int ra, .int rb, .int rn, .int rf, .int rw])), (bG, .inl (dG, 32, .inl rg)), (bS, .inl (dS, 48, .inl rs)), (bM, .inl (dM, 16384, .inl rm))]) ⟨hx, hb, hml, hown, hB⟩ (c_Ref_registerOf l D ((rb * (32 : Int32)) + ra)) yl_Ref_registerOf mw_905 hK hN hP hD hS hA [] [] [0, 1, 2, 3] [0, 1, 2, 3] rfl rfl rfl rfl (by decide +kernel) rfl hl.1 rfl (Nat.le_of_ble_eq_true rfl) ⟨Nat.le_of_ble_eq_true rfl, Nat.le_of_ble_eq_true rfl⟩ d_Ref_specials_28 ⟨Nat.le_of_ble_eq_true rfl, Nat.le_of_ble_eq_true rfl⟩ (fun H locs hP hD hS => ?_)
    refine lv_istore_n (lv' := [(2, .int (f_Ref_registerOf ((rb * (32 : Int32)) + ra))), (0, .ref aT), (1, .int p0)]) hx hb d_Ref_specials_31 rfl hl (by decide) rfl (fun ls hl => ?_)
    refine lv_iload_n hx hb d_Ref_specials_32 rfl (lv_at hl 0 rfl) ?_
    refine lv_if_ge (tgt := 43) hx hb d_Ref_specials_33 (by decide) (fun (h8 : (0 : Int32) ≤ (f_Ref_registerOf ((rb * (32 : Int32)) + ra))) => ?_) (fun (h8 : ¬ (0 : Int32) ≤ (f_Ref_registerOf ((rb * (32 : Int32)) + ra))) => ?_)
    · refine lv_iload_n hx hb d_Ref_specials_43 rfl (lv_at hl 0 rfl) ?_
      refine lv_iconst (v := (3 : Int32)) hx hb d_Ref_specials_44 (by decide) ?_
      refine lv_icmp_eq (tgt := 65) hx hb d_Ref_specials_45 (by decide) (fun (h12 : (f_Ref_registerOf ((rb * (32 : Int32)) + ra)) = (3 : Int32)) => ?_) (fun (h12 : ¬ (f_Ref_registerOf ((rb * (32 : Int32)) + ra)) = (3 : Int32)) => ?_)
      · refine lv_aload_n hx hb d_Ref_specials_65 rfl (lv_at hl 1 rfl) ?_
        refine va_get (D := D) (ci := 11) (v := .ref bG) (C := "MappedProcessorModel") (T := T_Ref) (N := 14) hx hb hB iw_Ref hown hK hP 0 rfl rfl 0 (by decide) (hB _ mw_643) (fun _ h9 => h9) rfl d_Ref_specials_66 ?_
        refine lv_aload_n hx hb d_Ref_specials_69 rfl (lv_at hl 1 rfl) ?_
        refine va_get (D := D) (ci := 11) (v := .int rd) (C := "MappedProcessorModel") (T := T_Ref) (N := 14) hx hb hB iw_Ref hown hK hP 0 rfl rfl 8 (by decide) (hB _ mw_651) (fun _ h9 => h9) rfl d_Ref_specials_70 ?_
        refine lv_iload_n hx hb d_Ref_specials_73 rfl (lv_at hl 2 rfl) ?_
        refine lv_sipush (v := (339 : Int32)) hx hb d_Ref_specials_74 (by decide) ?_
        refine lv_icmp_ne (tgt := 89) hx hb d_Ref_specials_77 (by decide) (fun (h13 : ¬ p0 = (339 : Int32)) => ?_) (fun (h13 : p0 = (339 : Int32)) => ?_)
        · exact absurd h1 h13
        refine lv_aload_n hx hb d_Ref_specials_80 rfl (lv_at hl 1 rfl) ?_
        refine va_get (D := D) (ci := 11) (v := .ref bS) (C := "MappedProcessorModel") (T := T_Ref) (N := 14) hx hb hB iw_Ref hown hK hP 0 rfl rfl 1 (by decide) (hB _ mw_644) (fun _ h9 => h9) rfl d_Ref_specials_81 ?_
        refine lv_iload_n hx hb d_Ref_specials_84 rfl (lv_at hl 0 rfl) ?_
        refine k_iald (j := (ix (f_Ref_registerOf ((rb * (32 : Int32)) + ra)))) hx hb hK hP 2 1 rfl rfl rfl (ix_regof h8) d_Ref_specials_85 ?_
        refine lv_goto (tgt := 98) hx hb d_Ref_specials_86 (by decide) ?_
        refine k_iast (j := (ix rd)) hx hb hK hP hD hS 1 0 rfl rfl rfl hrd d_Ref_specials_98 (fun H locs hP hD hS => ?_)
        have hP : va_P D kCl [(aT, .inr (11, [.ref bG, .ref bS, .ref bM, .int rl, .int rk, .int rr, .int re, .int rc, .int rd, .int ra, .int rb, .int rn, .int rf, .int rw])), (bG, .inl (dG, 32, .inl (upd rg (ix rd) (rs (ix (f_Ref_registerOf ((rb * (32 : Int32)) + ra))))))), (bS, .inl (dS, 48, .inl rs)), (bM, .inl (dM, 16384, .inl rm))] H := hP
        have hD : va_D A [(aT, .inr (11, [.ref bG, .ref bS, .ref bM, .int rl, .int rk, .int rr, .int re, .int rc, .int rd, .int ra, .int rb, .int rn, .int rf, .int rw])), (bG, .inl (dG, 32, .inl (upd rg (ix rd) (rs (ix (f_Ref_registerOf ((rb * (32 : Int32)) + ra))))))), (bS, .inl (dS, 48, .inl rs)), (bM, .inl (dM, 16384, .inl rm))] := hD
        refine lv_aload_n hx hb d_Ref_specials_99 rfl (lv_at hl 1 rfl) ?_
        refine va_get (D := D) (ci := 11) (v := .ref bS) (C := "MappedProcessorModel") (T := T_Ref) (N := 14) hx hb hB iw_Ref hown hK hP 0 rfl rfl 1 (by decide) (hB _ mw_644) (fun _ h9 => h9) rfl d_Ref_specials_100 ?_
        refine lv_iload_n hx hb d_Ref_specials_103 rfl (lv_at hl 0 rfl) ?_
        refine lv_iload_n hx hb d_Ref_specials_104 rfl (lv_at hl 2 rfl) ?_
        refine lv_sipush (v := (467 : Int32)) hx hb d_Ref_specials_105 (by decide) ?_
        refine k_join2 (c0 := p0 = (467 : Int32)) (x1 := ((upd rg (ix rd) (rs (ix (f_Ref_registerOf ((rb * (32 : Int32)) + ra))))) (ix rd))) (x2 := (rs (ix (f_Ref_registerOf ((rb * (32 : Int32)) + ra))))) (rest := [.int (f_Ref_registerOf ((rb * (32 : Int32)) + ra)), .ref bS]) 129 ?_ (fun k15 k16 => ?_)
        rotate_left
        · refine lv_icmp_ne (tgt := 123) hx hb d_Ref_specials_108 (by decide) (fun (h14 : ¬ p0 = (467 : Int32)) => ?_) (fun (h14 : p0 = (467 : Int32)) => ?_)
          · refine lv_aload_n hx hb d_Ref_specials_123 rfl (lv_at hl 1 rfl) ?_
            refine va_get (D := D) (ci := 11) (v := .ref bS) (C := "MappedProcessorModel") (T := T_Ref) (N := 14) hx hb hB iw_Ref hown hK hP 0 rfl rfl 1 (by decide) (hB _ mw_644) (fun _ h9 => h9) rfl d_Ref_specials_124 ?_
            refine lv_iload_n hx hb d_Ref_specials_127 rfl (lv_at hl 0 rfl) ?_
            refine k_iald (j := (ix (f_Ref_registerOf ((rb * (32 : Int32)) + ra)))) hx hb hK hP 2 1 rfl rfl rfl (ix_regof h8) d_Ref_specials_128 ?_
            exact k16 h14
          · refine lv_aload_n hx hb d_Ref_specials_111 rfl (lv_at hl 1 rfl) ?_
            refine va_get (D := D) (ci := 11) (v := .ref bG) (C := "MappedProcessorModel") (T := T_Ref) (N := 14) hx hb hB iw_Ref hown hK hP 0 rfl rfl 0 (by decide) (hB _ mw_643) (fun _ h9 => h9) rfl d_Ref_specials_112 ?_
            refine lv_aload_n hx hb d_Ref_specials_115 rfl (lv_at hl 1 rfl) ?_
            refine va_get (D := D) (ci := 11) (v := .int rd) (C := "MappedProcessorModel") (T := T_Ref) (N := 14) hx hb hB iw_Ref hown hK hP 0 rfl rfl 8 (by decide) (hB _ mw_651) (fun _ h9 => h9) rfl d_Ref_specials_116 ?_
            refine k_iald (j := (ix rd)) hx hb hK hP 1 0 rfl rfl rfl hrd d_Ref_specials_119 ?_
            refine lv_goto (tgt := 129) hx hb d_Ref_specials_120 (by decide) ?_
            exact k15 h14
        refine k_iast (j := (ix (f_Ref_registerOf ((rb * (32 : Int32)) + ra)))) hx hb hK hP hD hS 2 1 rfl rfl rfl (ix_regof h8) d_Ref_specials_129 (fun H locs hP hD hS => ?_)
        have hP : va_P D kCl [(aT, .inr (11, [.ref bG, .ref bS, .ref bM, .int rl, .int rk, .int rr, .int re, .int rc, .int rd, .int ra, .int rb, .int rn, .int rf, .int rw])), (bG, .inl (dG, 32, .inl (upd rg (ix rd) (rs (ix (f_Ref_registerOf ((rb * (32 : Int32)) + ra))))))), (bS, .inl (dS, 48, .inl (upd rs (ix (f_Ref_registerOf ((rb * (32 : Int32)) + ra))) (if p0 = (467 : Int32) then ((upd rg (ix rd) (rs (ix (f_Ref_registerOf ((rb * (32 : Int32)) + ra))))) (ix rd)) else (rs (ix (f_Ref_registerOf ((rb * (32 : Int32)) + ra)))))))), (bM, .inl (dM, 16384, .inl rm))] H := hP
        have hD : va_D A [(aT, .inr (11, [.ref bG, .ref bS, .ref bM, .int rl, .int rk, .int rr, .int re, .int rc, .int rd, .int ra, .int rb, .int rn, .int rf, .int rw])), (bG, .inl (dG, 32, .inl (upd rg (ix rd) (rs (ix (f_Ref_registerOf ((rb * (32 : Int32)) + ra))))))), (bS, .inl (dS, 48, .inl (upd rs (ix (f_Ref_registerOf ((rb * (32 : Int32)) + ra))) (if p0 = (467 : Int32) then ((upd rg (ix rd) (rs (ix (f_Ref_registerOf ((rb * (32 : Int32)) + ra))))) (ix rd)) else (rs (ix (f_Ref_registerOf ((rb * (32 : Int32)) + ra)))))))), (bM, .inl (dM, 16384, .inl rm))] := hD
        refine lv_iconst (v := (1 : Int32)) hx hb d_Ref_specials_130 (by decide) ?_
        have ef : f_Ref_specials p0 rg rs rl rd ra rb rn rf = ((1 : Int32), (upd rg (ix rd) (rs (ix (f_Ref_registerOf ((rb * (32 : Int32)) + ra))))), (upd rs (ix (f_Ref_registerOf ((rb * (32 : Int32)) + ra))) (if p0 = (467 : Int32) then ((upd rg (ix rd) (rs (ix (f_Ref_registerOf ((rb * (32 : Int32)) + ra))))) (ix rd)) else (rs (ix (f_Ref_registerOf ((rb * (32 : Int32)) + ra)))))), rl, rn, rf) := by unfold f_Ref_specials; try dsimp only; rw [if_pos h1, if_pos h8, if_pos h12]
        exact k_zret hx hb hr hlocks hK hP hD hS [0, 1, 2, 3] rfl (by rw [ef] <;> rfl) (by rw [ef] <;> rfl) nb1 d_Ref_specials_131
      · refine lv_iload_n hx hb d_Ref_specials_48 rfl (lv_at hl 0 rfl) ?_
        refine lv_iconst (v := (4 : Int32)) hx hb d_Ref_specials_49 (by decide) ?_
        refine lv_icmp_eq (tgt := 65) hx hb d_Ref_specials_50 (by decide) (fun (h22 : (f_Ref_registerOf ((rb * (32 : Int32)) + ra)) = (4 : Int32)) => ?_) (fun (h22 : ¬ (f_Ref_registerOf ((rb * (32 : Int32)) + ra)) = (4 : Int32)) => ?_)
        · refine lv_aload_n hx hb d_Ref_specials_65 rfl (lv_at hl 1 rfl) ?_
          refine va_get (D := D) (ci := 11) (v := .ref bG) (C := "MappedProcessorModel") (T := T_Ref) (N := 14) hx hb hB iw_Ref hown hK hP 0 rfl rfl 0 (by decide) (hB _ mw_643) (fun _ h9 => h9) rfl d_Ref_specials_66 ?_
          refine lv_aload_n hx hb d_Ref_specials_69 rfl (lv_at hl 1 rfl) ?_
          refine va_get (D := D) (ci := 11) (v := .int rd) (C := "MappedProcessorModel") (T := T_Ref) (N := 14) hx hb hB iw_Ref hown hK hP 0 rfl rfl 8 (by decide) (hB _ mw_651) (fun _ h9 => h9) rfl d_Ref_specials_70 ?_
          refine lv_iload_n hx hb d_Ref_specials_73 rfl (lv_at hl 2 rfl) ?_
          refine lv_sipush (v := (339 : Int32)) hx hb d_Ref_specials_74 (by decide) ?_
          refine lv_icmp_ne (tgt := 89) hx hb d_Ref_specials_77 (by decide) (fun (h23 : ¬ p0 = (339 : Int32)) => ?_) (fun (h23 : p0 = (339 : Int32)) => ?_)
          · exact absurd h1 h23
          refine lv_aload_n hx hb d_Ref_specials_80 rfl (lv_at hl 1 rfl) ?_
          refine va_get (D := D) (ci := 11) (v := .ref bS) (C := "MappedProcessorModel") (T := T_Ref) (N := 14) hx hb hB iw_Ref hown hK hP 0 rfl rfl 1 (by decide) (hB _ mw_644) (fun _ h9 => h9) rfl d_Ref_specials_81 ?_
          refine lv_iload_n hx hb d_Ref_specials_84 rfl (lv_at hl 0 rfl) ?_
          refine k_iald (j := (ix (f_Ref_registerOf ((rb * (32 : Int32)) + ra)))) hx hb hK hP 2 1 rfl rfl rfl (ix_regof h8) d_Ref_specials_85 ?_
          refine lv_goto (tgt := 98) hx hb d_Ref_specials_86 (by decide) ?_
          refine k_iast (j := (ix rd)) hx hb hK hP hD hS 1 0 rfl rfl rfl hrd d_Ref_specials_98 (fun H locs hP hD hS => ?_)
          have hP : va_P D kCl [(aT, .inr (11, [.ref bG, .ref bS, .ref bM, .int rl, .int rk, .int rr, .int re, .int rc, .int rd, .int ra, .int rb, .int rn, .int rf, .int rw])), (bG, .inl (dG, 32, .inl (upd rg (ix rd) (rs (ix (f_Ref_registerOf ((rb * (32 : Int32)) + ra))))))), (bS, .inl (dS, 48, .inl rs)), (bM, .inl (dM, 16384, .inl rm))] H := hP
          have hD : va_D A [(aT, .inr (11, [.ref bG, .ref bS, .ref bM, .int rl, .int rk, .int rr, .int re, .int rc, .int rd, .int ra, .int rb, .int rn, .int rf, .int rw])), (bG, .inl (dG, 32, .inl (upd rg (ix rd) (rs (ix (f_Ref_registerOf ((rb * (32 : Int32)) + ra))))))), (bS, .inl (dS, 48, .inl rs)), (bM, .inl (dM, 16384, .inl rm))] := hD
          refine lv_aload_n hx hb d_Ref_specials_99 rfl (lv_at hl 1 rfl) ?_
          refine va_get (D := D) (ci := 11) (v := .ref bS) (C := "MappedProcessorModel") (T := T_Ref) (N := 14) hx hb hB iw_Ref hown hK hP 0 rfl rfl 1 (by decide) (hB _ mw_644) (fun _ h9 => h9) rfl d_Ref_specials_100 ?_
          refine lv_iload_n hx hb d_Ref_specials_103 rfl (lv_at hl 0 rfl) ?_
          refine lv_iload_n hx hb d_Ref_specials_104 rfl (lv_at hl 2 rfl) ?_
          refine lv_sipush (v := (467 : Int32)) hx hb d_Ref_specials_105 (by decide) ?_
          refine k_join2 (c0 := p0 = (467 : Int32)) (x1 := ((upd rg (ix rd) (rs (ix (f_Ref_registerOf ((rb * (32 : Int32)) + ra))))) (ix rd))) (x2 := (rs (ix (f_Ref_registerOf ((rb * (32 : Int32)) + ra))))) (rest := [.int (f_Ref_registerOf ((rb * (32 : Int32)) + ra)), .ref bS]) 129 ?_ (fun k25 k26 => ?_)
          rotate_left
          · refine lv_icmp_ne (tgt := 123) hx hb d_Ref_specials_108 (by decide) (fun (h24 : ¬ p0 = (467 : Int32)) => ?_) (fun (h24 : p0 = (467 : Int32)) => ?_)
            · refine lv_aload_n hx hb d_Ref_specials_123 rfl (lv_at hl 1 rfl) ?_
              refine va_get (D := D) (ci := 11) (v := .ref bS) (C := "MappedProcessorModel") (T := T_Ref) (N := 14) hx hb hB iw_Ref hown hK hP 0 rfl rfl 1 (by decide) (hB _ mw_644) (fun _ h9 => h9) rfl d_Ref_specials_124 ?_
              refine lv_iload_n hx hb d_Ref_specials_127 rfl (lv_at hl 0 rfl) ?_
              refine k_iald (j := (ix (f_Ref_registerOf ((rb * (32 : Int32)) + ra)))) hx hb hK hP 2 1 rfl rfl rfl (ix_regof h8) d_Ref_specials_128 ?_
              exact k26 h24
            · refine lv_aload_n hx hb d_Ref_specials_111 rfl (lv_at hl 1 rfl) ?_
              refine va_get (D := D) (ci := 11) (v := .ref bG) (C := "MappedProcessorModel") (T := T_Ref) (N := 14) hx hb hB iw_Ref hown hK hP 0 rfl rfl 0 (by decide) (hB _ mw_643) (fun _ h9 => h9) rfl d_Ref_specials_112 ?_
              refine lv_aload_n hx hb d_Ref_specials_115 rfl (lv_at hl 1 rfl) ?_
              refine va_get (D := D) (ci := 11) (v := .int rd) (C := "MappedProcessorModel") (T := T_Ref) (N := 14) hx hb hB iw_Ref hown hK hP 0 rfl rfl 8 (by decide) (hB _ mw_651) (fun _ h9 => h9) rfl d_Ref_specials_116 ?_
              refine k_iald (j := (ix rd)) hx hb hK hP 1 0 rfl rfl rfl hrd d_Ref_specials_119 ?_
              refine lv_goto (tgt := 129) hx hb d_Ref_specials_120 (by decide) ?_
              exact k25 h24
          refine k_iast (j := (ix (f_Ref_registerOf ((rb * (32 : Int32)) + ra)))) hx hb hK hP hD hS 2 1 rfl rfl rfl (ix_regof h8) d_Ref_specials_129 (fun H locs hP hD hS => ?_)
          have hP : va_P D kCl [(aT, .inr (11, [.ref bG, .ref bS, .ref bM, .int rl, .int rk, .int rr, .int re, .int rc, .int rd, .int ra, .int rb, .int rn, .int rf, .int rw])), (bG, .inl (dG, 32, .inl (upd rg (ix rd) (rs (ix (f_Ref_registerOf ((rb * (32 : Int32)) + ra))))))), (bS, .inl (dS, 48, .inl (upd rs (ix (f_Ref_registerOf ((rb * (32 : Int32)) + ra))) (if p0 = (467 : Int32) then ((upd rg (ix rd) (rs (ix (f_Ref_registerOf ((rb * (32 : Int32)) + ra))))) (ix rd)) else (rs (ix (f_Ref_registerOf ((rb * (32 : Int32)) + ra)))))))), (bM, .inl (dM, 16384, .inl rm))] H := hP
          have hD : va_D A [(aT, .inr (11, [.ref bG, .ref bS, .ref bM, .int rl, .int rk, .int rr, .int re, .int rc, .int rd, .int ra, .int rb, .int rn, .int rf, .int rw])), (bG, .inl (dG, 32, .inl (upd rg (ix rd) (rs (ix (f_Ref_registerOf ((rb * (32 : Int32)) + ra))))))), (bS, .inl (dS, 48, .inl (upd rs (ix (f_Ref_registerOf ((rb * (32 : Int32)) + ra))) (if p0 = (467 : Int32) then ((upd rg (ix rd) (rs (ix (f_Ref_registerOf ((rb * (32 : Int32)) + ra))))) (ix rd)) else (rs (ix (f_Ref_registerOf ((rb * (32 : Int32)) + ra)))))))), (bM, .inl (dM, 16384, .inl rm))] := hD
          refine lv_iconst (v := (1 : Int32)) hx hb d_Ref_specials_130 (by decide) ?_
          have ef : f_Ref_specials p0 rg rs rl rd ra rb rn rf = ((1 : Int32), (upd rg (ix rd) (rs (ix (f_Ref_registerOf ((rb * (32 : Int32)) + ra))))), (upd rs (ix (f_Ref_registerOf ((rb * (32 : Int32)) + ra))) (if p0 = (467 : Int32) then ((upd rg (ix rd) (rs (ix (f_Ref_registerOf ((rb * (32 : Int32)) + ra))))) (ix rd)) else (rs (ix (f_Ref_registerOf ((rb * (32 : Int32)) + ra)))))), rl, rn, rf) := by unfold f_Ref_specials; try dsimp only; rw [if_pos h1, if_pos h8, if_neg h12, if_pos h22]
          exact k_zret hx hb hr hlocks hK hP hD hS [0, 1, 2, 3] rfl (by rw [ef] <;> rfl) (by rw [ef] <;> rfl) nb1 d_Ref_specials_131
        · refine lv_iload_n hx hb d_Ref_specials_53 rfl (lv_at hl 0 rfl) ?_
          refine lv_iconst (v := (5 : Int32)) hx hb d_Ref_specials_54 (by decide) ?_
          refine lv_icmp_eq (tgt := 65) hx hb d_Ref_specials_55 (by decide) (fun (h32 : (f_Ref_registerOf ((rb * (32 : Int32)) + ra)) = (5 : Int32)) => ?_) (fun (h32 : ¬ (f_Ref_registerOf ((rb * (32 : Int32)) + ra)) = (5 : Int32)) => ?_)
          · refine lv_aload_n hx hb d_Ref_specials_65 rfl (lv_at hl 1 rfl) ?_
            refine va_get (D := D) (ci := 11) (v := .ref bG) (C := "MappedProcessorModel") (T := T_Ref) (N := 14) hx hb hB iw_Ref hown hK hP 0 rfl rfl 0 (by decide) (hB _ mw_643) (fun _ h9 => h9) rfl d_Ref_specials_66 ?_
            refine lv_aload_n hx hb d_Ref_specials_69 rfl (lv_at hl 1 rfl) ?_
            refine va_get (D := D) (ci := 11) (v := .int rd) (C := "MappedProcessorModel") (T := T_Ref) (N := 14) hx hb hB iw_Ref hown hK hP 0 rfl rfl 8 (by decide) (hB _ mw_651) (fun _ h9 => h9) rfl d_Ref_specials_70 ?_
            refine lv_iload_n hx hb d_Ref_specials_73 rfl (lv_at hl 2 rfl) ?_
            refine lv_sipush (v := (339 : Int32)) hx hb d_Ref_specials_74 (by decide) ?_
            refine lv_icmp_ne (tgt := 89) hx hb d_Ref_specials_77 (by decide) (fun (h33 : ¬ p0 = (339 : Int32)) => ?_) (fun (h33 : p0 = (339 : Int32)) => ?_)
            · exact absurd h1 h33
            refine lv_aload_n hx hb d_Ref_specials_80 rfl (lv_at hl 1 rfl) ?_
            refine va_get (D := D) (ci := 11) (v := .ref bS) (C := "MappedProcessorModel") (T := T_Ref) (N := 14) hx hb hB iw_Ref hown hK hP 0 rfl rfl 1 (by decide) (hB _ mw_644) (fun _ h9 => h9) rfl d_Ref_specials_81 ?_
            refine lv_iload_n hx hb d_Ref_specials_84 rfl (lv_at hl 0 rfl) ?_
            refine k_iald (j := (ix (f_Ref_registerOf ((rb * (32 : Int32)) + ra)))) hx hb hK hP 2 1 rfl rfl rfl (ix_regof h8) d_Ref_specials_85 ?_
            refine lv_goto (tgt := 98) hx hb d_Ref_specials_86 (by decide) ?_
            refine k_iast (j := (ix rd)) hx hb hK hP hD hS 1 0 rfl rfl rfl hrd d_Ref_specials_98 (fun H locs hP hD hS => ?_)
            have hP : va_P D kCl [(aT, .inr (11, [.ref bG, .ref bS, .ref bM, .int rl, .int rk, .int rr, .int re, .int rc, .int rd, .int ra, .int rb, .int rn, .int rf, .int rw])), (bG, .inl (dG, 32, .inl (upd rg (ix rd) (rs (ix (f_Ref_registerOf ((rb * (32 : Int32)) + ra))))))), (bS, .inl (dS, 48, .inl rs)), (bM, .inl (dM, 16384, .inl rm))] H := hP
            have hD : va_D A [(aT, .inr (11, [.ref bG, .ref bS, .ref bM, .int rl, .int rk, .int rr, .int re, .int rc, .int rd, .int ra, .int rb, .int rn, .int rf, .int rw])), (bG, .inl (dG, 32, .inl (upd rg (ix rd) (rs (ix (f_Ref_registerOf ((rb * (32 : Int32)) + ra))))))), (bS, .inl (dS, 48, .inl rs)), (bM, .inl (dM, 16384, .inl rm))] := hD
            refine lv_aload_n hx hb d_Ref_specials_99 rfl (lv_at hl 1 rfl) ?_
            refine va_get (D := D) (ci := 11) (v := .ref bS) (C := "MappedProcessorModel") (T := T_Ref) (N := 14) hx hb hB iw_Ref hown hK hP 0 rfl rfl 1 (by decide) (hB _ mw_644) (fun _ h9 => h9) rfl d_Ref_specials_100 ?_
            refine lv_iload_n hx hb d_Ref_specials_103 rfl (lv_at hl 0 rfl) ?_
            refine lv_iload_n hx hb d_Ref_specials_104 rfl (lv_at hl 2 rfl) ?_
            refine lv_sipush (v := (467 : Int32)) hx hb d_Ref_specials_105 (by decide) ?_
            refine k_join2 (c0 := p0 = (467 : Int32)) (x1 := ((upd rg (ix rd) (rs (ix (f_Ref_registerOf ((rb * (32 : Int32)) + ra))))) (ix rd))) (x2 := (rs (ix (f_Ref_registerOf ((rb * (32 : Int32)) + ra))))) (rest := [.int (f_Ref_registerOf ((rb * (32 : Int32)) + ra)), .ref bS]) 129 ?_ (fun k35 k36 => ?_)
            rotate_left
            · refine lv_icmp_ne (tgt := 123) hx hb d_Ref_specials_108 (by decide) (fun (h34 : ¬ p0 = (467 : Int32)) => ?_) (fun (h34 : p0 = (467 : Int32)) => ?_)
              · refine lv_aload_n hx hb d_Ref_specials_123 rfl (lv_at hl 1 rfl) ?_
                refine va_get (D := D) (ci := 11) (v := .ref bS) (C := "MappedProcessorModel") (T := T_Ref) (N := 14) hx hb hB iw_Ref hown hK hP 0 rfl rfl 1 (by decide) (hB _ mw_644) (fun _ h9 => h9) rfl d_Ref_specials_124 ?_
                refine lv_iload_n hx hb d_Ref_specials_127 rfl (lv_at hl 0 rfl) ?_
                refine k_iald (j := (ix (f_Ref_registerOf ((rb * (32 : Int32)) + ra)))) hx hb hK hP 2 1 rfl rfl rfl (ix_regof h8) d_Ref_specials_128 ?_
                exact k36 h34
              · refine lv_aload_n hx hb d_Ref_specials_111 rfl (lv_at hl 1 rfl) ?_
                refine va_get (D := D) (ci := 11) (v := .ref bG) (C := "MappedProcessorModel") (T := T_Ref) (N := 14) hx hb hB iw_Ref hown hK hP 0 rfl rfl 0 (by decide) (hB _ mw_643) (fun _ h9 => h9) rfl d_Ref_specials_112 ?_
                refine lv_aload_n hx hb d_Ref_specials_115 rfl (lv_at hl 1 rfl) ?_
                refine va_get (D := D) (ci := 11) (v := .int rd) (C := "MappedProcessorModel") (T := T_Ref) (N := 14) hx hb hB iw_Ref hown hK hP 0 rfl rfl 8 (by decide) (hB _ mw_651) (fun _ h9 => h9) rfl d_Ref_specials_116 ?_
                refine k_iald (j := (ix rd)) hx hb hK hP 1 0 rfl rfl rfl hrd d_Ref_specials_119 ?_
                refine lv_goto (tgt := 129) hx hb d_Ref_specials_120 (by decide) ?_
                exact k35 h34
            refine k_iast (j := (ix (f_Ref_registerOf ((rb * (32 : Int32)) + ra)))) hx hb hK hP hD hS 2 1 rfl rfl rfl (ix_regof h8) d_Ref_specials_129 (fun H locs hP hD hS => ?_)
            have hP : va_P D kCl [(aT, .inr (11, [.ref bG, .ref bS, .ref bM, .int rl, .int rk, .int rr, .int re, .int rc, .int rd, .int ra, .int rb, .int rn, .int rf, .int rw])), (bG, .inl (dG, 32, .inl (upd rg (ix rd) (rs (ix (f_Ref_registerOf ((rb * (32 : Int32)) + ra))))))), (bS, .inl (dS, 48, .inl (upd rs (ix (f_Ref_registerOf ((rb * (32 : Int32)) + ra))) (if p0 = (467 : Int32) then ((upd rg (ix rd) (rs (ix (f_Ref_registerOf ((rb * (32 : Int32)) + ra))))) (ix rd)) else (rs (ix (f_Ref_registerOf ((rb * (32 : Int32)) + ra)))))))), (bM, .inl (dM, 16384, .inl rm))] H := hP
            have hD : va_D A [(aT, .inr (11, [.ref bG, .ref bS, .ref bM, .int rl, .int rk, .int rr, .int re, .int rc, .int rd, .int ra, .int rb, .int rn, .int rf, .int rw])), (bG, .inl (dG, 32, .inl (upd rg (ix rd) (rs (ix (f_Ref_registerOf ((rb * (32 : Int32)) + ra))))))), (bS, .inl (dS, 48, .inl (upd rs (ix (f_Ref_registerOf ((rb * (32 : Int32)) + ra))) (if p0 = (467 : Int32) then ((upd rg (ix rd) (rs (ix (f_Ref_registerOf ((rb * (32 : Int32)) + ra))))) (ix rd)) else (rs (ix (f_Ref_registerOf ((rb * (32 : Int32)) + ra)))))))), (bM, .inl (dM, 16384, .inl rm))] := hD
            refine lv_iconst (v := (1 : Int32)) hx hb d_Ref_specials_130 (by decide) ?_
            have ef : f_Ref_specials p0 rg rs rl rd ra rb rn rf = ((1 : Int32), (upd rg (ix rd) (rs (ix (f_Ref_registerOf ((rb * (32 : Int32)) + ra))))), (upd rs (ix (f_Ref_registerOf ((rb * (32 : Int32)) + ra))) (if p0 = (467 : Int32) then ((upd rg (ix rd) (rs (ix (f_Ref_registerOf ((rb * (32 : Int32)) + ra))))) (ix rd)) else (rs (ix (f_Ref_registerOf ((rb * (32 : Int32)) + ra)))))), rl, rn, rf) := by unfold f_Ref_specials; try dsimp only; rw [if_pos h1, if_pos h8, if_neg h12, if_neg h22, if_pos h32]
            exact k_zret hx hb hr hlocks hK hP hD hS [0, 1, 2, 3] rfl (by rw [ef] <;> rfl) (by rw [ef] <;> rfl) nb1 d_Ref_specials_131
          · refine lv_aload_n hx hb d_Ref_specials_58 rfl (lv_at hl 1 rfl) ?_
            let t39 := (f_Ref_barred rs rl rn rf)
            refine k_cVi (As := []) (rest := []) (wr := []) (wj := [(aT, .inr (11, [.ref bG, .ref bS, .ref bM, .int t39.2.2.1, .int rk, .int rr, .int re, .int rc, .int rd, .int ra, .int rb, .int t39.2.2.2.1, .int t39.2.2.2.2, .int rw])), (bG, .inl (dG, 32, .inl rg)), (bS, .inl (dS, 48, .inl t39.2.1)), (bM, .inl (dM, 16384, .inl rm))]) ⟨hx, hb, hml, hown, hB⟩ (c_Ref_barred l D aT bG bS bM dG dS dM rg rs rm rl rk rr re rc rd ra rb rn rf rw) yl_Ref_barred mw_822 hK hN hP hD hS hA [0, 1, 2] [0, 1, 2, 3] [] [0, 1, 2, 3] rfl rfl rfl rfl (by decide +kernel) 0 rfl rfl rfl rfl hl.1 rfl (Nat.le_of_ble_eq_true rfl) ⟨Nat.le_of_ble_eq_true rfl, Nat.le_of_ble_eq_true rfl⟩ d_Ref_specials_59 ⟨Nat.le_of_ble_eq_true rfl, Nat.le_of_ble_eq_true rfl⟩ (fun H locs hP hD hS => ?_)
            refine lv_if_ne (tgt := 130) hx hb d_Ref_specials_62 (by decide) (fun (h43 : ¬ t39.1 = (0 : Int32)) => ?_) (fun (h43 : t39.1 = (0 : Int32)) => ?_)
            · refine lv_iconst (v := (1 : Int32)) hx hb d_Ref_specials_130 (by decide) ?_
              have ef : f_Ref_specials p0 rg rs rl rd ra rb rn rf = ((1 : Int32), rg, t39.2.1, t39.2.2.1, t39.2.2.2.1, t39.2.2.2.2) := by unfold f_Ref_specials; try dsimp only; rw [if_pos h1, if_pos h8, if_neg h12, if_neg h22, if_neg h32, if_neg h43]
              exact k_zret hx hb hr hlocks hK hP hD hS [0, 1, 2, 3] rfl (by rw [ef] <;> rfl) (by rw [ef] <;> rfl) nb1 d_Ref_specials_131
            · refine lv_aload_n hx hb d_Ref_specials_65 rfl (lv_at hl 1 rfl) ?_
              refine va_get (D := D) (ci := 11) (v := .ref bG) (C := "MappedProcessorModel") (T := T_Ref) (N := 14) hx hb hB iw_Ref hown hK hP 0 rfl rfl 0 (by decide) (hB _ mw_643) (fun _ h9 => h9) rfl d_Ref_specials_66 ?_
              refine lv_aload_n hx hb d_Ref_specials_69 rfl (lv_at hl 1 rfl) ?_
              refine va_get (D := D) (ci := 11) (v := .int rd) (C := "MappedProcessorModel") (T := T_Ref) (N := 14) hx hb hB iw_Ref hown hK hP 0 rfl rfl 8 (by decide) (hB _ mw_651) (fun _ h9 => h9) rfl d_Ref_specials_70 ?_
              refine lv_iload_n hx hb d_Ref_specials_73 rfl (lv_at hl 2 rfl) ?_
              refine lv_sipush (v := (339 : Int32)) hx hb d_Ref_specials_74 (by decide) ?_
              refine lv_icmp_ne (tgt := 89) hx hb d_Ref_specials_77 (by decide) (fun (h44 : ¬ p0 = (339 : Int32)) => ?_) (fun (h44 : p0 = (339 : Int32)) => ?_)
              · exact absurd h1 h44
              refine lv_aload_n hx hb d_Ref_specials_80 rfl (lv_at hl 1 rfl) ?_
              refine va_get (D := D) (ci := 11) (v := .ref bS) (C := "MappedProcessorModel") (T := T_Ref) (N := 14) hx hb hB iw_Ref hown hK hP 0 rfl rfl 1 (by decide) (hB _ mw_644) (fun _ h9 => h9) rfl d_Ref_specials_81 ?_
              refine lv_iload_n hx hb d_Ref_specials_84 rfl (lv_at hl 0 rfl) ?_
              refine k_iald (j := (ix (f_Ref_registerOf ((rb * (32 : Int32)) + ra)))) hx hb hK hP 2 1 rfl rfl rfl (ix_regof h8) d_Ref_specials_85 ?_
              refine lv_goto (tgt := 98) hx hb d_Ref_specials_86 (by decide) ?_
              refine k_iast (j := (ix rd)) hx hb hK hP hD hS 1 0 rfl rfl rfl hrd d_Ref_specials_98 (fun H locs hP hD hS => ?_)
              have hP : va_P D kCl [(aT, .inr (11, [.ref bG, .ref bS, .ref bM, .int t39.2.2.1, .int rk, .int rr, .int re, .int rc, .int rd, .int ra, .int rb, .int t39.2.2.2.1, .int t39.2.2.2.2, .int rw])), (bG, .inl (dG, 32, .inl (upd rg (ix rd) (t39.2.1 (ix (f_Ref_registerOf ((rb * (32 : Int32)) + ra))))))), (bS, .inl (dS, 48, .inl t39.2.1)), (bM, .inl (dM, 16384, .inl rm))] H := hP
              have hD : va_D A [(aT, .inr (11, [.ref bG, .ref bS, .ref bM, .int t39.2.2.1, .int rk, .int rr, .int re, .int rc, .int rd, .int ra, .int rb, .int t39.2.2.2.1, .int t39.2.2.2.2, .int rw])), (bG, .inl (dG, 32, .inl (upd rg (ix rd) (t39.2.1 (ix (f_Ref_registerOf ((rb * (32 : Int32)) + ra))))))), (bS, .inl (dS, 48, .inl t39.2.1)), (bM, .inl (dM, 16384, .inl rm))] := hD
              refine lv_aload_n hx hb d_Ref_specials_99 rfl (lv_at hl 1 rfl) ?_
              refine va_get (D := D) (ci := 11) (v := .ref bS) (C := "MappedProcessorModel") (T := T_Ref) (N := 14) hx hb hB iw_Ref hown hK hP 0 rfl rfl 1 (by decide) (hB _ mw_644) (fun _ h9 => h9) rfl d_Ref_specials_100 ?_
              refine lv_iload_n hx hb d_Ref_specials_103 rfl (lv_at hl 0 rfl) ?_
              refine lv_iload_n hx hb d_Ref_specials_104 rfl (lv_at hl 2 rfl) ?_
              refine lv_sipush (v := (467 : Int32)) hx hb d_Ref_specials_105 (by decide) ?_
              refine k_join2 (c0 := p0 = (467 : Int32)) (x1 := ((upd rg (ix rd) (t39.2.1 (ix (f_Ref_registerOf ((rb * (32 : Int32)) + ra))))) (ix rd))) (x2 := (t39.2.1 (ix (f_Ref_registerOf ((rb * (32 : Int32)) + ra))))) (rest := [.int (f_Ref_registerOf ((rb * (32 : Int32)) + ra)), .ref bS]) 129 ?_ (fun k46 k47 => ?_)
              rotate_left
              · refine lv_icmp_ne (tgt := 123) hx hb d_Ref_specials_108 (by decide) (fun (h45 : ¬ p0 = (467 : Int32)) => ?_) (fun (h45 : p0 = (467 : Int32)) => ?_)
                · refine lv_aload_n hx hb d_Ref_specials_123 rfl (lv_at hl 1 rfl) ?_
                  refine va_get (D := D) (ci := 11) (v := .ref bS) (C := "MappedProcessorModel") (T := T_Ref) (N := 14) hx hb hB iw_Ref hown hK hP 0 rfl rfl 1 (by decide) (hB _ mw_644) (fun _ h9 => h9) rfl d_Ref_specials_124 ?_
                  refine lv_iload_n hx hb d_Ref_specials_127 rfl (lv_at hl 0 rfl) ?_
                  refine k_iald (j := (ix (f_Ref_registerOf ((rb * (32 : Int32)) + ra)))) hx hb hK hP 2 1 rfl rfl rfl (ix_regof h8) d_Ref_specials_128 ?_
                  exact k47 h45
                · refine lv_aload_n hx hb d_Ref_specials_111 rfl (lv_at hl 1 rfl) ?_
                  refine va_get (D := D) (ci := 11) (v := .ref bG) (C := "MappedProcessorModel") (T := T_Ref) (N := 14) hx hb hB iw_Ref hown hK hP 0 rfl rfl 0 (by decide) (hB _ mw_643) (fun _ h9 => h9) rfl d_Ref_specials_112 ?_
                  refine lv_aload_n hx hb d_Ref_specials_115 rfl (lv_at hl 1 rfl) ?_
                  refine va_get (D := D) (ci := 11) (v := .int rd) (C := "MappedProcessorModel") (T := T_Ref) (N := 14) hx hb hB iw_Ref hown hK hP 0 rfl rfl 8 (by decide) (hB _ mw_651) (fun _ h9 => h9) rfl d_Ref_specials_116 ?_
                  refine k_iald (j := (ix rd)) hx hb hK hP 1 0 rfl rfl rfl hrd d_Ref_specials_119 ?_
                  refine lv_goto (tgt := 129) hx hb d_Ref_specials_120 (by decide) ?_
                  exact k46 h45
              refine k_iast (j := (ix (f_Ref_registerOf ((rb * (32 : Int32)) + ra)))) hx hb hK hP hD hS 2 1 rfl rfl rfl (ix_regof h8) d_Ref_specials_129 (fun H locs hP hD hS => ?_)
              have hP : va_P D kCl [(aT, .inr (11, [.ref bG, .ref bS, .ref bM, .int t39.2.2.1, .int rk, .int rr, .int re, .int rc, .int rd, .int ra, .int rb, .int t39.2.2.2.1, .int t39.2.2.2.2, .int rw])), (bG, .inl (dG, 32, .inl (upd rg (ix rd) (t39.2.1 (ix (f_Ref_registerOf ((rb * (32 : Int32)) + ra))))))), (bS, .inl (dS, 48, .inl (upd t39.2.1 (ix (f_Ref_registerOf ((rb * (32 : Int32)) + ra))) (if p0 = (467 : Int32) then ((upd rg (ix rd) (t39.2.1 (ix (f_Ref_registerOf ((rb * (32 : Int32)) + ra))))) (ix rd)) else (t39.2.1 (ix (f_Ref_registerOf ((rb * (32 : Int32)) + ra)))))))), (bM, .inl (dM, 16384, .inl rm))] H := hP
              have hD : va_D A [(aT, .inr (11, [.ref bG, .ref bS, .ref bM, .int t39.2.2.1, .int rk, .int rr, .int re, .int rc, .int rd, .int ra, .int rb, .int t39.2.2.2.1, .int t39.2.2.2.2, .int rw])), (bG, .inl (dG, 32, .inl (upd rg (ix rd) (t39.2.1 (ix (f_Ref_registerOf ((rb * (32 : Int32)) + ra))))))), (bS, .inl (dS, 48, .inl (upd t39.2.1 (ix (f_Ref_registerOf ((rb * (32 : Int32)) + ra))) (if p0 = (467 : Int32) then ((upd rg (ix rd) (t39.2.1 (ix (f_Ref_registerOf ((rb * (32 : Int32)) + ra))))) (ix rd)) else (t39.2.1 (ix (f_Ref_registerOf ((rb * (32 : Int32)) + ra)))))))), (bM, .inl (dM, 16384, .inl rm))] := hD
              refine lv_iconst (v := (1 : Int32)) hx hb d_Ref_specials_130 (by decide) ?_
              have ef : f_Ref_specials p0 rg rs rl rd ra rb rn rf = ((1 : Int32), (upd rg (ix rd) (t39.2.1 (ix (f_Ref_registerOf ((rb * (32 : Int32)) + ra))))), (upd t39.2.1 (ix (f_Ref_registerOf ((rb * (32 : Int32)) + ra))) (if p0 = (467 : Int32) then ((upd rg (ix rd) (t39.2.1 (ix (f_Ref_registerOf ((rb * (32 : Int32)) + ra))))) (ix rd)) else (t39.2.1 (ix (f_Ref_registerOf ((rb * (32 : Int32)) + ra)))))), t39.2.2.1, t39.2.2.2.1, t39.2.2.2.2) := by unfold f_Ref_specials; try dsimp only; rw [if_pos h1, if_pos h8, if_neg h12, if_neg h22, if_neg h32, if_pos h43]
              exact k_zret hx hb hr hlocks hK hP hD hS [0, 1, 2, 3] rfl (by rw [ef] <;> rfl) (by rw [ef] <;> rfl) nb1 d_Ref_specials_131
    · refine lv_aload_n hx hb d_Ref_specials_36 rfl (lv_at hl 1 rfl) ?_
      let t50 := (f_Ref_unlisted rs)
      refine k_cVv (As := []) (rest := []) (wr := []) (wj := [(aT, .inr (11, [.ref bG, .ref bS, .ref bM, .int t50.2.1, .int rk, .int rr, .int re, .int rc, .int rd, .int ra, .int rb, .int t50.2.2.1, .int t50.2.2.2, .int rw])), (bG, .inl (dG, 32, .inl rg)), (bS, .inl (dS, 48, .inl t50.1)), (bM, .inl (dM, 16384, .inl rm))]) ⟨hx, hb, hml, hown, hB⟩ (c_Ref_unlisted l D aT bG bS bM dG dS dM rg rs rm rl rk rr re rc rd ra rb rn rf rw) yl_Ref_unlisted mw_827 hK hN hP hD hS hA [0, 1, 2] [0, 1, 2, 3] [] [0, 1, 2, 3] rfl rfl rfl rfl (by decide +kernel) 0 rfl rfl rfl rfl hl.1 rfl (Nat.le_of_ble_eq_true rfl) ⟨Nat.le_of_ble_eq_true rfl, Nat.le_of_ble_eq_true rfl⟩ d_Ref_specials_37 ⟨Nat.le_of_ble_eq_true rfl, Nat.le_of_ble_eq_true rfl⟩ (fun H locs hP hD hS => ?_)
      refine lv_goto (tgt := 130) hx hb d_Ref_specials_40 (by decide) ?_
      refine lv_iconst (v := (1 : Int32)) hx hb d_Ref_specials_130 (by decide) ?_
      have ef : f_Ref_specials p0 rg rs rl rd ra rb rn rf = ((1 : Int32), rg, t50.1, t50.2.1, t50.2.2.1, t50.2.2.2) := by unfold f_Ref_specials; try dsimp only; rw [if_pos h1, if_neg h8]
      exact k_zret hx hb hr hlocks hK hP hD hS [0, 1, 2, 3] rfl (by rw [ef] <;> rfl) (by rw [ef] <;> rfl) nb1 d_Ref_specials_131
  · refine lv_iload_n hx hb d_Ref_specials_7 rfl (lv_at hl 1 rfl) ?_
    refine lv_sipush (v := (467 : Int32)) hx hb d_Ref_specials_8 (by decide) ?_
    refine lv_icmp_eq (tgt := 16) hx hb d_Ref_specials_11 (by decide) (fun (h51 : p0 = (467 : Int32)) => ?_) (fun (h51 : ¬ p0 = (467 : Int32)) => ?_)
    · refine lv_aload_n hx hb d_Ref_specials_16 rfl (lv_at hl 0 rfl) ?_
      refine va_get (D := D) (ci := 11) (v := .int rb) (C := "MappedProcessorModel") (T := T_Ref) (N := 14) hx hb hB iw_Ref hown hK hP 0 rfl rfl 10 (by decide) (hB _ mw_653) (fun _ h9 => h9) rfl d_Ref_specials_17 ?_
      refine lv_bipush (v := (32 : Int32)) hx hb d_Ref_specials_20 (by decide) ?_
      refine lv_imul hx hb d_Ref_specials_22 ?_
      refine lv_aload_n hx hb d_Ref_specials_23 rfl (lv_at hl 0 rfl) ?_
      refine va_get (D := D) (ci := 11) (v := .int ra) (C := "MappedProcessorModel") (T := T_Ref) (N := 14) hx hb hB iw_Ref hown hK hP 0 rfl rfl 9 (by decide) (hB _ mw_652) (fun _ h9 => h9) rfl d_Ref_specials_24 ?_
      refine lv_iadd hx hb d_Ref_specials_27 ?_
      refine k_cSi (As := [.int ((rb * (32 : Int32)) + ra)]) (rest := []) (wr := [(aT, .inr (11, [.ref bG, .ref bS, .ref bM, .int rl, .int rk, .int rr, .int re, .int rc, .int rd, .int ra, .int rb, .int rn, .int rf, .int rw])), (bG, .inl (dG, 32, .inl rg)), (bS, .inl (dS, 48, .inl rs)), (bM, .inl (dM, 16384, .inl rm))]) (wj := [(aT, .inr (11, [.ref bG, .ref bS, .ref bM, .int rl, .int rk, .int rr, .int re, .int rc, .int rd, .int ra, .int rb, .int rn, .int rf, .int rw])), (bG, .inl (dG, 32, .inl rg)), (bS, .inl (dS, 48, .inl rs)), (bM, .inl (dM, 16384, .inl rm))]) ⟨hx, hb, hml, hown, hB⟩ (c_Ref_registerOf l D ((rb * (32 : Int32)) + ra)) yl_Ref_registerOf mw_905 hK hN hP hD hS hA [] [] [0, 1, 2, 3] [0, 1, 2, 3] rfl rfl rfl rfl (by decide +kernel) rfl hl.1 rfl (Nat.le_of_ble_eq_true rfl) ⟨Nat.le_of_ble_eq_true rfl, Nat.le_of_ble_eq_true rfl⟩ d_Ref_specials_28 ⟨Nat.le_of_ble_eq_true rfl, Nat.le_of_ble_eq_true rfl⟩ (fun H locs hP hD hS => ?_)
      refine lv_istore_n (lv' := [(2, .int (f_Ref_registerOf ((rb * (32 : Int32)) + ra))), (0, .ref aT), (1, .int p0)]) hx hb d_Ref_specials_31 rfl hl (by decide) rfl (fun ls hl => ?_)
      refine lv_iload_n hx hb d_Ref_specials_32 rfl (lv_at hl 0 rfl) ?_
      refine lv_if_ge (tgt := 43) hx hb d_Ref_specials_33 (by decide) (fun (h58 : (0 : Int32) ≤ (f_Ref_registerOf ((rb * (32 : Int32)) + ra))) => ?_) (fun (h58 : ¬ (0 : Int32) ≤ (f_Ref_registerOf ((rb * (32 : Int32)) + ra))) => ?_)
      · refine lv_iload_n hx hb d_Ref_specials_43 rfl (lv_at hl 0 rfl) ?_
        refine lv_iconst (v := (3 : Int32)) hx hb d_Ref_specials_44 (by decide) ?_
        refine lv_icmp_eq (tgt := 65) hx hb d_Ref_specials_45 (by decide) (fun (h62 : (f_Ref_registerOf ((rb * (32 : Int32)) + ra)) = (3 : Int32)) => ?_) (fun (h62 : ¬ (f_Ref_registerOf ((rb * (32 : Int32)) + ra)) = (3 : Int32)) => ?_)
        · refine lv_aload_n hx hb d_Ref_specials_65 rfl (lv_at hl 1 rfl) ?_
          refine va_get (D := D) (ci := 11) (v := .ref bG) (C := "MappedProcessorModel") (T := T_Ref) (N := 14) hx hb hB iw_Ref hown hK hP 0 rfl rfl 0 (by decide) (hB _ mw_643) (fun _ h9 => h9) rfl d_Ref_specials_66 ?_
          refine lv_aload_n hx hb d_Ref_specials_69 rfl (lv_at hl 1 rfl) ?_
          refine va_get (D := D) (ci := 11) (v := .int rd) (C := "MappedProcessorModel") (T := T_Ref) (N := 14) hx hb hB iw_Ref hown hK hP 0 rfl rfl 8 (by decide) (hB _ mw_651) (fun _ h9 => h9) rfl d_Ref_specials_70 ?_
          refine lv_iload_n hx hb d_Ref_specials_73 rfl (lv_at hl 2 rfl) ?_
          refine lv_sipush (v := (339 : Int32)) hx hb d_Ref_specials_74 (by decide) ?_
          refine lv_icmp_ne (tgt := 89) hx hb d_Ref_specials_77 (by decide) (fun (h63 : ¬ p0 = (339 : Int32)) => ?_) (fun (h63 : p0 = (339 : Int32)) => ?_)
          rotate_left
          · exact absurd h63 h1
          refine lv_aload_n hx hb d_Ref_specials_89 rfl (lv_at hl 1 rfl) ?_
          refine va_get (D := D) (ci := 11) (v := .ref bG) (C := "MappedProcessorModel") (T := T_Ref) (N := 14) hx hb hB iw_Ref hown hK hP 0 rfl rfl 0 (by decide) (hB _ mw_643) (fun _ h9 => h9) rfl d_Ref_specials_90 ?_
          refine lv_aload_n hx hb d_Ref_specials_93 rfl (lv_at hl 1 rfl) ?_
          refine va_get (D := D) (ci := 11) (v := .int rd) (C := "MappedProcessorModel") (T := T_Ref) (N := 14) hx hb hB iw_Ref hown hK hP 0 rfl rfl 8 (by decide) (hB _ mw_651) (fun _ h9 => h9) rfl d_Ref_specials_94 ?_
          refine k_iald (j := (ix rd)) hx hb hK hP 1 0 rfl rfl rfl hrd d_Ref_specials_97 ?_
          refine k_iast (j := (ix rd)) hx hb hK hP hD hS 1 0 rfl rfl rfl hrd d_Ref_specials_98 (fun H locs hP hD hS => ?_)
          have hP : va_P D kCl [(aT, .inr (11, [.ref bG, .ref bS, .ref bM, .int rl, .int rk, .int rr, .int re, .int rc, .int rd, .int ra, .int rb, .int rn, .int rf, .int rw])), (bG, .inl (dG, 32, .inl (upd rg (ix rd) (rg (ix rd))))), (bS, .inl (dS, 48, .inl rs)), (bM, .inl (dM, 16384, .inl rm))] H := hP
          have hD : va_D A [(aT, .inr (11, [.ref bG, .ref bS, .ref bM, .int rl, .int rk, .int rr, .int re, .int rc, .int rd, .int ra, .int rb, .int rn, .int rf, .int rw])), (bG, .inl (dG, 32, .inl (upd rg (ix rd) (rg (ix rd))))), (bS, .inl (dS, 48, .inl rs)), (bM, .inl (dM, 16384, .inl rm))] := hD
          refine lv_aload_n hx hb d_Ref_specials_99 rfl (lv_at hl 1 rfl) ?_
          refine va_get (D := D) (ci := 11) (v := .ref bS) (C := "MappedProcessorModel") (T := T_Ref) (N := 14) hx hb hB iw_Ref hown hK hP 0 rfl rfl 1 (by decide) (hB _ mw_644) (fun _ h9 => h9) rfl d_Ref_specials_100 ?_
          refine lv_iload_n hx hb d_Ref_specials_103 rfl (lv_at hl 0 rfl) ?_
          refine lv_iload_n hx hb d_Ref_specials_104 rfl (lv_at hl 2 rfl) ?_
          refine lv_sipush (v := (467 : Int32)) hx hb d_Ref_specials_105 (by decide) ?_
          refine lv_icmp_ne (tgt := 123) hx hb d_Ref_specials_108 (by decide) (fun (h64 : ¬ p0 = (467 : Int32)) => ?_) (fun (h64 : p0 = (467 : Int32)) => ?_)
          · exact absurd h51 h64
          refine lv_aload_n hx hb d_Ref_specials_111 rfl (lv_at hl 1 rfl) ?_
          refine va_get (D := D) (ci := 11) (v := .ref bG) (C := "MappedProcessorModel") (T := T_Ref) (N := 14) hx hb hB iw_Ref hown hK hP 0 rfl rfl 0 (by decide) (hB _ mw_643) (fun _ h9 => h9) rfl d_Ref_specials_112 ?_
          refine lv_aload_n hx hb d_Ref_specials_115 rfl (lv_at hl 1 rfl) ?_
          refine va_get (D := D) (ci := 11) (v := .int rd) (C := "MappedProcessorModel") (T := T_Ref) (N := 14) hx hb hB iw_Ref hown hK hP 0 rfl rfl 8 (by decide) (hB _ mw_651) (fun _ h9 => h9) rfl d_Ref_specials_116 ?_
          refine k_iald (j := (ix rd)) hx hb hK hP 1 0 rfl rfl rfl hrd d_Ref_specials_119 ?_
          refine lv_goto (tgt := 129) hx hb d_Ref_specials_120 (by decide) ?_
          refine k_iast (j := (ix (f_Ref_registerOf ((rb * (32 : Int32)) + ra)))) hx hb hK hP hD hS 2 1 rfl rfl rfl (ix_regof h58) d_Ref_specials_129 (fun H locs hP hD hS => ?_)
          have hP : va_P D kCl [(aT, .inr (11, [.ref bG, .ref bS, .ref bM, .int rl, .int rk, .int rr, .int re, .int rc, .int rd, .int ra, .int rb, .int rn, .int rf, .int rw])), (bG, .inl (dG, 32, .inl (upd rg (ix rd) (rg (ix rd))))), (bS, .inl (dS, 48, .inl (upd rs (ix (f_Ref_registerOf ((rb * (32 : Int32)) + ra))) ((upd rg (ix rd) (rg (ix rd))) (ix rd))))), (bM, .inl (dM, 16384, .inl rm))] H := hP
          have hD : va_D A [(aT, .inr (11, [.ref bG, .ref bS, .ref bM, .int rl, .int rk, .int rr, .int re, .int rc, .int rd, .int ra, .int rb, .int rn, .int rf, .int rw])), (bG, .inl (dG, 32, .inl (upd rg (ix rd) (rg (ix rd))))), (bS, .inl (dS, 48, .inl (upd rs (ix (f_Ref_registerOf ((rb * (32 : Int32)) + ra))) ((upd rg (ix rd) (rg (ix rd))) (ix rd))))), (bM, .inl (dM, 16384, .inl rm))] := hD
          refine lv_iconst (v := (1 : Int32)) hx hb d_Ref_specials_130 (by decide) ?_
          have ef : f_Ref_specials p0 rg rs rl rd ra rb rn rf = ((1 : Int32), (upd rg (ix rd) (rg (ix rd))), (upd rs (ix (f_Ref_registerOf ((rb * (32 : Int32)) + ra))) ((upd rg (ix rd) (rg (ix rd))) (ix rd))), rl, rn, rf) := by unfold f_Ref_specials; try dsimp only; rw [if_neg h1, if_pos h51, if_pos h58, if_pos h62]
          exact k_zret hx hb hr hlocks hK hP hD hS [0, 1, 2, 3] rfl (by rw [ef] <;> rfl) (by rw [ef] <;> rfl) nb1 d_Ref_specials_131
        · refine lv_iload_n hx hb d_Ref_specials_48 rfl (lv_at hl 0 rfl) ?_
          refine lv_iconst (v := (4 : Int32)) hx hb d_Ref_specials_49 (by decide) ?_
          refine lv_icmp_eq (tgt := 65) hx hb d_Ref_specials_50 (by decide) (fun (h68 : (f_Ref_registerOf ((rb * (32 : Int32)) + ra)) = (4 : Int32)) => ?_) (fun (h68 : ¬ (f_Ref_registerOf ((rb * (32 : Int32)) + ra)) = (4 : Int32)) => ?_)
          · refine lv_aload_n hx hb d_Ref_specials_65 rfl (lv_at hl 1 rfl) ?_
            refine va_get (D := D) (ci := 11) (v := .ref bG) (C := "MappedProcessorModel") (T := T_Ref) (N := 14) hx hb hB iw_Ref hown hK hP 0 rfl rfl 0 (by decide) (hB _ mw_643) (fun _ h9 => h9) rfl d_Ref_specials_66 ?_
            refine lv_aload_n hx hb d_Ref_specials_69 rfl (lv_at hl 1 rfl) ?_
            refine va_get (D := D) (ci := 11) (v := .int rd) (C := "MappedProcessorModel") (T := T_Ref) (N := 14) hx hb hB iw_Ref hown hK hP 0 rfl rfl 8 (by decide) (hB _ mw_651) (fun _ h9 => h9) rfl d_Ref_specials_70 ?_
            refine lv_iload_n hx hb d_Ref_specials_73 rfl (lv_at hl 2 rfl) ?_
            refine lv_sipush (v := (339 : Int32)) hx hb d_Ref_specials_74 (by decide) ?_
            refine lv_icmp_ne (tgt := 89) hx hb d_Ref_specials_77 (by decide) (fun (h69 : ¬ p0 = (339 : Int32)) => ?_) (fun (h69 : p0 = (339 : Int32)) => ?_)
            rotate_left
            · exact absurd h69 h1
            refine lv_aload_n hx hb d_Ref_specials_89 rfl (lv_at hl 1 rfl) ?_
            refine va_get (D := D) (ci := 11) (v := .ref bG) (C := "MappedProcessorModel") (T := T_Ref) (N := 14) hx hb hB iw_Ref hown hK hP 0 rfl rfl 0 (by decide) (hB _ mw_643) (fun _ h9 => h9) rfl d_Ref_specials_90 ?_
            refine lv_aload_n hx hb d_Ref_specials_93 rfl (lv_at hl 1 rfl) ?_
            refine va_get (D := D) (ci := 11) (v := .int rd) (C := "MappedProcessorModel") (T := T_Ref) (N := 14) hx hb hB iw_Ref hown hK hP 0 rfl rfl 8 (by decide) (hB _ mw_651) (fun _ h9 => h9) rfl d_Ref_specials_94 ?_
            refine k_iald (j := (ix rd)) hx hb hK hP 1 0 rfl rfl rfl hrd d_Ref_specials_97 ?_
            refine k_iast (j := (ix rd)) hx hb hK hP hD hS 1 0 rfl rfl rfl hrd d_Ref_specials_98 (fun H locs hP hD hS => ?_)
            have hP : va_P D kCl [(aT, .inr (11, [.ref bG, .ref bS, .ref bM, .int rl, .int rk, .int rr, .int re, .int rc, .int rd, .int ra, .int rb, .int rn, .int rf, .int rw])), (bG, .inl (dG, 32, .inl (upd rg (ix rd) (rg (ix rd))))), (bS, .inl (dS, 48, .inl rs)), (bM, .inl (dM, 16384, .inl rm))] H := hP
            have hD : va_D A [(aT, .inr (11, [.ref bG, .ref bS, .ref bM, .int rl, .int rk, .int rr, .int re, .int rc, .int rd, .int ra, .int rb, .int rn, .int rf, .int rw])), (bG, .inl (dG, 32, .inl (upd rg (ix rd) (rg (ix rd))))), (bS, .inl (dS, 48, .inl rs)), (bM, .inl (dM, 16384, .inl rm))] := hD
            refine lv_aload_n hx hb d_Ref_specials_99 rfl (lv_at hl 1 rfl) ?_
            refine va_get (D := D) (ci := 11) (v := .ref bS) (C := "MappedProcessorModel") (T := T_Ref) (N := 14) hx hb hB iw_Ref hown hK hP 0 rfl rfl 1 (by decide) (hB _ mw_644) (fun _ h9 => h9) rfl d_Ref_specials_100 ?_
            refine lv_iload_n hx hb d_Ref_specials_103 rfl (lv_at hl 0 rfl) ?_
            refine lv_iload_n hx hb d_Ref_specials_104 rfl (lv_at hl 2 rfl) ?_
            refine lv_sipush (v := (467 : Int32)) hx hb d_Ref_specials_105 (by decide) ?_
            refine lv_icmp_ne (tgt := 123) hx hb d_Ref_specials_108 (by decide) (fun (h70 : ¬ p0 = (467 : Int32)) => ?_) (fun (h70 : p0 = (467 : Int32)) => ?_)
            · exact absurd h51 h70
            refine lv_aload_n hx hb d_Ref_specials_111 rfl (lv_at hl 1 rfl) ?_
            refine va_get (D := D) (ci := 11) (v := .ref bG) (C := "MappedProcessorModel") (T := T_Ref) (N := 14) hx hb hB iw_Ref hown hK hP 0 rfl rfl 0 (by decide) (hB _ mw_643) (fun _ h9 => h9) rfl d_Ref_specials_112 ?_
            refine lv_aload_n hx hb d_Ref_specials_115 rfl (lv_at hl 1 rfl) ?_
            refine va_get (D := D) (ci := 11) (v := .int rd) (C := "MappedProcessorModel") (T := T_Ref) (N := 14) hx hb hB iw_Ref hown hK hP 0 rfl rfl 8 (by decide) (hB _ mw_651) (fun _ h9 => h9) rfl d_Ref_specials_116 ?_
            refine k_iald (j := (ix rd)) hx hb hK hP 1 0 rfl rfl rfl hrd d_Ref_specials_119 ?_
            refine lv_goto (tgt := 129) hx hb d_Ref_specials_120 (by decide) ?_
            refine k_iast (j := (ix (f_Ref_registerOf ((rb * (32 : Int32)) + ra)))) hx hb hK hP hD hS 2 1 rfl rfl rfl (ix_regof h58) d_Ref_specials_129 (fun H locs hP hD hS => ?_)
            have hP : va_P D kCl [(aT, .inr (11, [.ref bG, .ref bS, .ref bM, .int rl, .int rk, .int rr, .int re, .int rc, .int rd, .int ra, .int rb, .int rn, .int rf, .int rw])), (bG, .inl (dG, 32, .inl (upd rg (ix rd) (rg (ix rd))))), (bS, .inl (dS, 48, .inl (upd rs (ix (f_Ref_registerOf ((rb * (32 : Int32)) + ra))) ((upd rg (ix rd) (rg (ix rd))) (ix rd))))), (bM, .inl (dM, 16384, .inl rm))] H := hP
            have hD : va_D A [(aT, .inr (11, [.ref bG, .ref bS, .ref bM, .int rl, .int rk, .int rr, .int re, .int rc, .int rd, .int ra, .int rb, .int rn, .int rf, .int rw])), (bG, .inl (dG, 32, .inl (upd rg (ix rd) (rg (ix rd))))), (bS, .inl (dS, 48, .inl (upd rs (ix (f_Ref_registerOf ((rb * (32 : Int32)) + ra))) ((upd rg (ix rd) (rg (ix rd))) (ix rd))))), (bM, .inl (dM, 16384, .inl rm))] := hD
            refine lv_iconst (v := (1 : Int32)) hx hb d_Ref_specials_130 (by decide) ?_
            have ef : f_Ref_specials p0 rg rs rl rd ra rb rn rf = ((1 : Int32), (upd rg (ix rd) (rg (ix rd))), (upd rs (ix (f_Ref_registerOf ((rb * (32 : Int32)) + ra))) ((upd rg (ix rd) (rg (ix rd))) (ix rd))), rl, rn, rf) := by unfold f_Ref_specials; try dsimp only; rw [if_neg h1, if_pos h51, if_pos h58, if_neg h62, if_pos h68]
            exact k_zret hx hb hr hlocks hK hP hD hS [0, 1, 2, 3] rfl (by rw [ef] <;> rfl) (by rw [ef] <;> rfl) nb1 d_Ref_specials_131
          · refine lv_iload_n hx hb d_Ref_specials_53 rfl (lv_at hl 0 rfl) ?_
            refine lv_iconst (v := (5 : Int32)) hx hb d_Ref_specials_54 (by decide) ?_
            refine lv_icmp_eq (tgt := 65) hx hb d_Ref_specials_55 (by decide) (fun (h74 : (f_Ref_registerOf ((rb * (32 : Int32)) + ra)) = (5 : Int32)) => ?_) (fun (h74 : ¬ (f_Ref_registerOf ((rb * (32 : Int32)) + ra)) = (5 : Int32)) => ?_)
            · refine lv_aload_n hx hb d_Ref_specials_65 rfl (lv_at hl 1 rfl) ?_
              refine va_get (D := D) (ci := 11) (v := .ref bG) (C := "MappedProcessorModel") (T := T_Ref) (N := 14) hx hb hB iw_Ref hown hK hP 0 rfl rfl 0 (by decide) (hB _ mw_643) (fun _ h9 => h9) rfl d_Ref_specials_66 ?_
              refine lv_aload_n hx hb d_Ref_specials_69 rfl (lv_at hl 1 rfl) ?_
              refine va_get (D := D) (ci := 11) (v := .int rd) (C := "MappedProcessorModel") (T := T_Ref) (N := 14) hx hb hB iw_Ref hown hK hP 0 rfl rfl 8 (by decide) (hB _ mw_651) (fun _ h9 => h9) rfl d_Ref_specials_70 ?_
              refine lv_iload_n hx hb d_Ref_specials_73 rfl (lv_at hl 2 rfl) ?_
              refine lv_sipush (v := (339 : Int32)) hx hb d_Ref_specials_74 (by decide) ?_
              refine lv_icmp_ne (tgt := 89) hx hb d_Ref_specials_77 (by decide) (fun (h75 : ¬ p0 = (339 : Int32)) => ?_) (fun (h75 : p0 = (339 : Int32)) => ?_)
              rotate_left
              · exact absurd h75 h1
              refine lv_aload_n hx hb d_Ref_specials_89 rfl (lv_at hl 1 rfl) ?_
              refine va_get (D := D) (ci := 11) (v := .ref bG) (C := "MappedProcessorModel") (T := T_Ref) (N := 14) hx hb hB iw_Ref hown hK hP 0 rfl rfl 0 (by decide) (hB _ mw_643) (fun _ h9 => h9) rfl d_Ref_specials_90 ?_
              refine lv_aload_n hx hb d_Ref_specials_93 rfl (lv_at hl 1 rfl) ?_
              refine va_get (D := D) (ci := 11) (v := .int rd) (C := "MappedProcessorModel") (T := T_Ref) (N := 14) hx hb hB iw_Ref hown hK hP 0 rfl rfl 8 (by decide) (hB _ mw_651) (fun _ h9 => h9) rfl d_Ref_specials_94 ?_
              refine k_iald (j := (ix rd)) hx hb hK hP 1 0 rfl rfl rfl hrd d_Ref_specials_97 ?_
              refine k_iast (j := (ix rd)) hx hb hK hP hD hS 1 0 rfl rfl rfl hrd d_Ref_specials_98 (fun H locs hP hD hS => ?_)
              have hP : va_P D kCl [(aT, .inr (11, [.ref bG, .ref bS, .ref bM, .int rl, .int rk, .int rr, .int re, .int rc, .int rd, .int ra, .int rb, .int rn, .int rf, .int rw])), (bG, .inl (dG, 32, .inl (upd rg (ix rd) (rg (ix rd))))), (bS, .inl (dS, 48, .inl rs)), (bM, .inl (dM, 16384, .inl rm))] H := hP
              have hD : va_D A [(aT, .inr (11, [.ref bG, .ref bS, .ref bM, .int rl, .int rk, .int rr, .int re, .int rc, .int rd, .int ra, .int rb, .int rn, .int rf, .int rw])), (bG, .inl (dG, 32, .inl (upd rg (ix rd) (rg (ix rd))))), (bS, .inl (dS, 48, .inl rs)), (bM, .inl (dM, 16384, .inl rm))] := hD
              refine lv_aload_n hx hb d_Ref_specials_99 rfl (lv_at hl 1 rfl) ?_
              refine va_get (D := D) (ci := 11) (v := .ref bS) (C := "MappedProcessorModel") (T := T_Ref) (N := 14) hx hb hB iw_Ref hown hK hP 0 rfl rfl 1 (by decide) (hB _ mw_644) (fun _ h9 => h9) rfl d_Ref_specials_100 ?_
              refine lv_iload_n hx hb d_Ref_specials_103 rfl (lv_at hl 0 rfl) ?_
              refine lv_iload_n hx hb d_Ref_specials_104 rfl (lv_at hl 2 rfl) ?_
              refine lv_sipush (v := (467 : Int32)) hx hb d_Ref_specials_105 (by decide) ?_
              refine lv_icmp_ne (tgt := 123) hx hb d_Ref_specials_108 (by decide) (fun (h76 : ¬ p0 = (467 : Int32)) => ?_) (fun (h76 : p0 = (467 : Int32)) => ?_)
              · exact absurd h51 h76
              refine lv_aload_n hx hb d_Ref_specials_111 rfl (lv_at hl 1 rfl) ?_
              refine va_get (D := D) (ci := 11) (v := .ref bG) (C := "MappedProcessorModel") (T := T_Ref) (N := 14) hx hb hB iw_Ref hown hK hP 0 rfl rfl 0 (by decide) (hB _ mw_643) (fun _ h9 => h9) rfl d_Ref_specials_112 ?_
              refine lv_aload_n hx hb d_Ref_specials_115 rfl (lv_at hl 1 rfl) ?_
              refine va_get (D := D) (ci := 11) (v := .int rd) (C := "MappedProcessorModel") (T := T_Ref) (N := 14) hx hb hB iw_Ref hown hK hP 0 rfl rfl 8 (by decide) (hB _ mw_651) (fun _ h9 => h9) rfl d_Ref_specials_116 ?_
              refine k_iald (j := (ix rd)) hx hb hK hP 1 0 rfl rfl rfl hrd d_Ref_specials_119 ?_
              refine lv_goto (tgt := 129) hx hb d_Ref_specials_120 (by decide) ?_
              refine k_iast (j := (ix (f_Ref_registerOf ((rb * (32 : Int32)) + ra)))) hx hb hK hP hD hS 2 1 rfl rfl rfl (ix_regof h58) d_Ref_specials_129 (fun H locs hP hD hS => ?_)
              have hP : va_P D kCl [(aT, .inr (11, [.ref bG, .ref bS, .ref bM, .int rl, .int rk, .int rr, .int re, .int rc, .int rd, .int ra, .int rb, .int rn, .int rf, .int rw])), (bG, .inl (dG, 32, .inl (upd rg (ix rd) (rg (ix rd))))), (bS, .inl (dS, 48, .inl (upd rs (ix (f_Ref_registerOf ((rb * (32 : Int32)) + ra))) ((upd rg (ix rd) (rg (ix rd))) (ix rd))))), (bM, .inl (dM, 16384, .inl rm))] H := hP
              have hD : va_D A [(aT, .inr (11, [.ref bG, .ref bS, .ref bM, .int rl, .int rk, .int rr, .int re, .int rc, .int rd, .int ra, .int rb, .int rn, .int rf, .int rw])), (bG, .inl (dG, 32, .inl (upd rg (ix rd) (rg (ix rd))))), (bS, .inl (dS, 48, .inl (upd rs (ix (f_Ref_registerOf ((rb * (32 : Int32)) + ra))) ((upd rg (ix rd) (rg (ix rd))) (ix rd))))), (bM, .inl (dM, 16384, .inl rm))] := hD
              refine lv_iconst (v := (1 : Int32)) hx hb d_Ref_specials_130 (by decide) ?_
              have ef : f_Ref_specials p0 rg rs rl rd ra rb rn rf = ((1 : Int32), (upd rg (ix rd) (rg (ix rd))), (upd rs (ix (f_Ref_registerOf ((rb * (32 : Int32)) + ra))) ((upd rg (ix rd) (rg (ix rd))) (ix rd))), rl, rn, rf) := by unfold f_Ref_specials; try dsimp only; rw [if_neg h1, if_pos h51, if_pos h58, if_neg h62, if_neg h68, if_pos h74]
              exact k_zret hx hb hr hlocks hK hP hD hS [0, 1, 2, 3] rfl (by rw [ef] <;> rfl) (by rw [ef] <;> rfl) nb1 d_Ref_specials_131
            · refine lv_aload_n hx hb d_Ref_specials_58 rfl (lv_at hl 1 rfl) ?_
              let t77 := (f_Ref_barred rs rl rn rf)
              refine k_cVi (As := []) (rest := []) (wr := []) (wj := [(aT, .inr (11, [.ref bG, .ref bS, .ref bM, .int t77.2.2.1, .int rk, .int rr, .int re, .int rc, .int rd, .int ra, .int rb, .int t77.2.2.2.1, .int t77.2.2.2.2, .int rw])), (bG, .inl (dG, 32, .inl rg)), (bS, .inl (dS, 48, .inl t77.2.1)), (bM, .inl (dM, 16384, .inl rm))]) ⟨hx, hb, hml, hown, hB⟩ (c_Ref_barred l D aT bG bS bM dG dS dM rg rs rm rl rk rr re rc rd ra rb rn rf rw) yl_Ref_barred mw_822 hK hN hP hD hS hA [0, 1, 2] [0, 1, 2, 3] [] [0, 1, 2, 3] rfl rfl rfl rfl (by decide +kernel) 0 rfl rfl rfl rfl hl.1 rfl (Nat.le_of_ble_eq_true rfl) ⟨Nat.le_of_ble_eq_true rfl, Nat.le_of_ble_eq_true rfl⟩ d_Ref_specials_59 ⟨Nat.le_of_ble_eq_true rfl, Nat.le_of_ble_eq_true rfl⟩ (fun H locs hP hD hS => ?_)
              refine lv_if_ne (tgt := 130) hx hb d_Ref_specials_62 (by decide) (fun (h81 : ¬ t77.1 = (0 : Int32)) => ?_) (fun (h81 : t77.1 = (0 : Int32)) => ?_)
              · refine lv_iconst (v := (1 : Int32)) hx hb d_Ref_specials_130 (by decide) ?_
                have ef : f_Ref_specials p0 rg rs rl rd ra rb rn rf = ((1 : Int32), rg, t77.2.1, t77.2.2.1, t77.2.2.2.1, t77.2.2.2.2) := by unfold f_Ref_specials; try dsimp only; rw [if_neg h1, if_pos h51, if_pos h58, if_neg h62, if_neg h68, if_neg h74, if_neg h81]
                exact k_zret hx hb hr hlocks hK hP hD hS [0, 1, 2, 3] rfl (by rw [ef] <;> rfl) (by rw [ef] <;> rfl) nb1 d_Ref_specials_131
              · refine lv_aload_n hx hb d_Ref_specials_65 rfl (lv_at hl 1 rfl) ?_
                refine va_get (D := D) (ci := 11) (v := .ref bG) (C := "MappedProcessorModel") (T := T_Ref) (N := 14) hx hb hB iw_Ref hown hK hP 0 rfl rfl 0 (by decide) (hB _ mw_643) (fun _ h9 => h9) rfl d_Ref_specials_66 ?_
                refine lv_aload_n hx hb d_Ref_specials_69 rfl (lv_at hl 1 rfl) ?_
                refine va_get (D := D) (ci := 11) (v := .int rd) (C := "MappedProcessorModel") (T := T_Ref) (N := 14) hx hb hB iw_Ref hown hK hP 0 rfl rfl 8 (by decide) (hB _ mw_651) (fun _ h9 => h9) rfl d_Ref_specials_70 ?_
                refine lv_iload_n hx hb d_Ref_specials_73 rfl (lv_at hl 2 rfl) ?_
                refine lv_sipush (v := (339 : Int32)) hx hb d_Ref_specials_74 (by decide) ?_
                refine lv_icmp_ne (tgt := 89) hx hb d_Ref_specials_77 (by decide) (fun (h82 : ¬ p0 = (339 : Int32)) => ?_) (fun (h82 : p0 = (339 : Int32)) => ?_)
                rotate_left
                · exact absurd h82 h1
                refine lv_aload_n hx hb d_Ref_specials_89 rfl (lv_at hl 1 rfl) ?_
                refine va_get (D := D) (ci := 11) (v := .ref bG) (C := "MappedProcessorModel") (T := T_Ref) (N := 14) hx hb hB iw_Ref hown hK hP 0 rfl rfl 0 (by decide) (hB _ mw_643) (fun _ h9 => h9) rfl d_Ref_specials_90 ?_
                refine lv_aload_n hx hb d_Ref_specials_93 rfl (lv_at hl 1 rfl) ?_
                refine va_get (D := D) (ci := 11) (v := .int rd) (C := "MappedProcessorModel") (T := T_Ref) (N := 14) hx hb hB iw_Ref hown hK hP 0 rfl rfl 8 (by decide) (hB _ mw_651) (fun _ h9 => h9) rfl d_Ref_specials_94 ?_
                refine k_iald (j := (ix rd)) hx hb hK hP 1 0 rfl rfl rfl hrd d_Ref_specials_97 ?_
                refine k_iast (j := (ix rd)) hx hb hK hP hD hS 1 0 rfl rfl rfl hrd d_Ref_specials_98 (fun H locs hP hD hS => ?_)
                have hP : va_P D kCl [(aT, .inr (11, [.ref bG, .ref bS, .ref bM, .int t77.2.2.1, .int rk, .int rr, .int re, .int rc, .int rd, .int ra, .int rb, .int t77.2.2.2.1, .int t77.2.2.2.2, .int rw])), (bG, .inl (dG, 32, .inl (upd rg (ix rd) (rg (ix rd))))), (bS, .inl (dS, 48, .inl t77.2.1)), (bM, .inl (dM, 16384, .inl rm))] H := hP
                have hD : va_D A [(aT, .inr (11, [.ref bG, .ref bS, .ref bM, .int t77.2.2.1, .int rk, .int rr, .int re, .int rc, .int rd, .int ra, .int rb, .int t77.2.2.2.1, .int t77.2.2.2.2, .int rw])), (bG, .inl (dG, 32, .inl (upd rg (ix rd) (rg (ix rd))))), (bS, .inl (dS, 48, .inl t77.2.1)), (bM, .inl (dM, 16384, .inl rm))] := hD
                refine lv_aload_n hx hb d_Ref_specials_99 rfl (lv_at hl 1 rfl) ?_
                refine va_get (D := D) (ci := 11) (v := .ref bS) (C := "MappedProcessorModel") (T := T_Ref) (N := 14) hx hb hB iw_Ref hown hK hP 0 rfl rfl 1 (by decide) (hB _ mw_644) (fun _ h9 => h9) rfl d_Ref_specials_100 ?_
                refine lv_iload_n hx hb d_Ref_specials_103 rfl (lv_at hl 0 rfl) ?_
                refine lv_iload_n hx hb d_Ref_specials_104 rfl (lv_at hl 2 rfl) ?_
                refine lv_sipush (v := (467 : Int32)) hx hb d_Ref_specials_105 (by decide) ?_
                refine lv_icmp_ne (tgt := 123) hx hb d_Ref_specials_108 (by decide) (fun (h83 : ¬ p0 = (467 : Int32)) => ?_) (fun (h83 : p0 = (467 : Int32)) => ?_)
                · exact absurd h51 h83
                refine lv_aload_n hx hb d_Ref_specials_111 rfl (lv_at hl 1 rfl) ?_
                refine va_get (D := D) (ci := 11) (v := .ref bG) (C := "MappedProcessorModel") (T := T_Ref) (N := 14) hx hb hB iw_Ref hown hK hP 0 rfl rfl 0 (by decide) (hB _ mw_643) (fun _ h9 => h9) rfl d_Ref_specials_112 ?_
                refine lv_aload_n hx hb d_Ref_specials_115 rfl (lv_at hl 1 rfl) ?_
                refine va_get (D := D) (ci := 11) (v := .int rd) (C := "MappedProcessorModel") (T := T_Ref) (N := 14) hx hb hB iw_Ref hown hK hP 0 rfl rfl 8 (by decide) (hB _ mw_651) (fun _ h9 => h9) rfl d_Ref_specials_116 ?_
                refine k_iald (j := (ix rd)) hx hb hK hP 1 0 rfl rfl rfl hrd d_Ref_specials_119 ?_
                refine lv_goto (tgt := 129) hx hb d_Ref_specials_120 (by decide) ?_
                refine k_iast (j := (ix (f_Ref_registerOf ((rb * (32 : Int32)) + ra)))) hx hb hK hP hD hS 2 1 rfl rfl rfl (ix_regof h58) d_Ref_specials_129 (fun H locs hP hD hS => ?_)
                have hP : va_P D kCl [(aT, .inr (11, [.ref bG, .ref bS, .ref bM, .int t77.2.2.1, .int rk, .int rr, .int re, .int rc, .int rd, .int ra, .int rb, .int t77.2.2.2.1, .int t77.2.2.2.2, .int rw])), (bG, .inl (dG, 32, .inl (upd rg (ix rd) (rg (ix rd))))), (bS, .inl (dS, 48, .inl (upd t77.2.1 (ix (f_Ref_registerOf ((rb * (32 : Int32)) + ra))) ((upd rg (ix rd) (rg (ix rd))) (ix rd))))), (bM, .inl (dM, 16384, .inl rm))] H := hP
                have hD : va_D A [(aT, .inr (11, [.ref bG, .ref bS, .ref bM, .int t77.2.2.1, .int rk, .int rr, .int re, .int rc, .int rd, .int ra, .int rb, .int t77.2.2.2.1, .int t77.2.2.2.2, .int rw])), (bG, .inl (dG, 32, .inl (upd rg (ix rd) (rg (ix rd))))), (bS, .inl (dS, 48, .inl (upd t77.2.1 (ix (f_Ref_registerOf ((rb * (32 : Int32)) + ra))) ((upd rg (ix rd) (rg (ix rd))) (ix rd))))), (bM, .inl (dM, 16384, .inl rm))] := hD
                refine lv_iconst (v := (1 : Int32)) hx hb d_Ref_specials_130 (by decide) ?_
                have ef : f_Ref_specials p0 rg rs rl rd ra rb rn rf = ((1 : Int32), (upd rg (ix rd) (rg (ix rd))), (upd t77.2.1 (ix (f_Ref_registerOf ((rb * (32 : Int32)) + ra))) ((upd rg (ix rd) (rg (ix rd))) (ix rd))), t77.2.2.1, t77.2.2.2.1, t77.2.2.2.2) := by unfold f_Ref_specials; try dsimp only; rw [if_neg h1, if_pos h51, if_pos h58, if_neg h62, if_neg h68, if_neg h74, if_pos h81]
                exact k_zret hx hb hr hlocks hK hP hD hS [0, 1, 2, 3] rfl (by rw [ef] <;> rfl) (by rw [ef] <;> rfl) nb1 d_Ref_specials_131
      · refine lv_aload_n hx hb d_Ref_specials_36 rfl (lv_at hl 1 rfl) ?_
        let t84 := (f_Ref_unlisted rs)
        refine k_cVv (As := []) (rest := []) (wr := []) (wj := [(aT, .inr (11, [.ref bG, .ref bS, .ref bM, .int t84.2.1, .int rk, .int rr, .int re, .int rc, .int rd, .int ra, .int rb, .int t84.2.2.1, .int t84.2.2.2, .int rw])), (bG, .inl (dG, 32, .inl rg)), (bS, .inl (dS, 48, .inl t84.1)), (bM, .inl (dM, 16384, .inl rm))]) ⟨hx, hb, hml, hown, hB⟩ (c_Ref_unlisted l D aT bG bS bM dG dS dM rg rs rm rl rk rr re rc rd ra rb rn rf rw) yl_Ref_unlisted mw_827 hK hN hP hD hS hA [0, 1, 2] [0, 1, 2, 3] [] [0, 1, 2, 3] rfl rfl rfl rfl (by decide +kernel) 0 rfl rfl rfl rfl hl.1 rfl (Nat.le_of_ble_eq_true rfl) ⟨Nat.le_of_ble_eq_true rfl, Nat.le_of_ble_eq_true rfl⟩ d_Ref_specials_37 ⟨Nat.le_of_ble_eq_true rfl, Nat.le_of_ble_eq_true rfl⟩ (fun H locs hP hD hS => ?_)
        refine lv_goto (tgt := 130) hx hb d_Ref_specials_40 (by decide) ?_
        refine lv_iconst (v := (1 : Int32)) hx hb d_Ref_specials_130 (by decide) ?_
        have ef : f_Ref_specials p0 rg rs rl rd ra rb rn rf = ((1 : Int32), rg, t84.1, t84.2.1, t84.2.2.1, t84.2.2.2) := by unfold f_Ref_specials; try dsimp only; rw [if_neg h1, if_pos h51, if_neg h58]
        exact k_zret hx hb hr hlocks hK hP hD hS [0, 1, 2, 3] rfl (by rw [ef] <;> rfl) (by rw [ef] <;> rfl) nb1 d_Ref_specials_131
    · refine lv_iconst (v := (0 : Int32)) hx hb d_Ref_specials_14 (by decide) ?_
      have ef : f_Ref_specials p0 rg rs rl rd ra rb rn rf = ((0 : Int32), rg, rs, rl, rn, rf) := by unfold f_Ref_specials; try dsimp only; rw [if_neg h1, if_neg h51]
      exact k_zret hx hb hr hlocks hK hP hD hS [0, 1, 2, 3] rfl (by rw [ef] <;> rfl) (by rw [ef] <;> rfl) nb0 d_Ref_specials_15
/-! MappedProcessorModel.extended(I)V -/
theorem d_Ref_extended_0 : decode b_Ref_extended 0 = .ok (.iload_n 1, 1) := by decide +kernel
theorem d_Ref_extended_1 : decode b_Ref_extended 1 = .ok (.ifCond .ne 36, 3) := by decide +kernel
theorem d_Ref_extended_4 : decode b_Ref_extended 4 = .ok (.aload_n 0, 1) := by decide +kernel
theorem d_Ref_extended_5 : decode b_Ref_extended 5 = .ok (.aload_n 0, 1) := by decide +kernel
theorem d_Ref_extended_6 : decode b_Ref_extended 6 = .ok (.getfield 82, 3) := by decide +kernel
theorem d_Ref_extended_9 : decode b_Ref_extended 9 = .ok (.iconst 2, 1) := by decide +kernel
theorem d_Ref_extended_10 : decode b_Ref_extended 10 = .ok (.ishr, 1) := by decide +kernel
theorem d_Ref_extended_11 : decode b_Ref_extended 11 = .ok (.aload_n 0, 1) := by decide +kernel
theorem d_Ref_extended_12 : decode b_Ref_extended 12 = .ok (.getfield 7, 3) := by decide +kernel
theorem d_Ref_extended_15 : decode b_Ref_extended 15 = .ok (.aload_n 0, 1) := by decide +kernel
theorem d_Ref_extended_16 : decode b_Ref_extended 16 = .ok (.getfield 85, 3) := by decide +kernel
theorem d_Ref_extended_19 : decode b_Ref_extended 19 = .ok (.iaload, 1) := by decide +kernel
theorem d_Ref_extended_20 : decode b_Ref_extended 20 = .ok (.i2l, 1) := by decide +kernel
theorem d_Ref_extended_21 : decode b_Ref_extended 21 = .ok (.aload_n 0, 1) := by decide +kernel
theorem d_Ref_extended_22 : decode b_Ref_extended 22 = .ok (.getfield 7, 3) := by decide +kernel
theorem d_Ref_extended_25 : decode b_Ref_extended 25 = .ok (.aload_n 0, 1) := by decide +kernel
theorem d_Ref_extended_26 : decode b_Ref_extended 26 = .ok (.getfield 88, 3) := by decide +kernel
theorem d_Ref_extended_29 : decode b_Ref_extended 29 = .ok (.iaload, 1) := by decide +kernel
theorem d_Ref_extended_30 : decode b_Ref_extended 30 = .ok (.i2l, 1) := by decide +kernel
theorem d_Ref_extended_31 : decode b_Ref_extended 31 = .ok (.invokevirtual 97, 3) := by decide +kernel
theorem d_Ref_extended_34 : decode b_Ref_extended 34 = .ok (.goto 199, 3) := by decide +kernel
theorem d_Ref_extended_37 : decode b_Ref_extended 37 = .ok (.iload_n 1, 1) := by decide +kernel
theorem d_Ref_extended_38 : decode b_Ref_extended 38 = .ok (.bipush 32, 2) := by decide +kernel
theorem d_Ref_extended_40 : decode b_Ref_extended 40 = .ok (.if_icmp .ne 40, 3) := by decide +kernel
theorem d_Ref_extended_43 : decode b_Ref_extended 43 = .ok (.aload_n 0, 1) := by decide +kernel
theorem d_Ref_extended_44 : decode b_Ref_extended 44 = .ok (.aload_n 0, 1) := by decide +kernel
theorem d_Ref_extended_45 : decode b_Ref_extended 45 = .ok (.getfield 82, 3) := by decide +kernel
theorem d_Ref_extended_48 : decode b_Ref_extended 48 = .ok (.iconst 2, 1) := by decide +kernel
theorem d_Ref_extended_49 : decode b_Ref_extended 49 = .ok (.ishr, 1) := by decide +kernel
theorem d_Ref_extended_50 : decode b_Ref_extended 50 = .ok (.aload_n 0, 1) := by decide +kernel
theorem d_Ref_extended_51 : decode b_Ref_extended 51 = .ok (.getfield 7, 3) := by decide +kernel
theorem d_Ref_extended_54 : decode b_Ref_extended 54 = .ok (.aload_n 0, 1) := by decide +kernel
theorem d_Ref_extended_55 : decode b_Ref_extended 55 = .ok (.getfield 85, 3) := by decide +kernel
theorem d_Ref_extended_58 : decode b_Ref_extended 58 = .ok (.iaload, 1) := by decide +kernel
theorem d_Ref_extended_59 : decode b_Ref_extended 59 = .ok (.invokestatic 103, 3) := by decide +kernel
theorem d_Ref_extended_62 : decode b_Ref_extended 62 = .ok (.aload_n 0, 1) := by decide +kernel
theorem d_Ref_extended_63 : decode b_Ref_extended 63 = .ok (.getfield 7, 3) := by decide +kernel
theorem d_Ref_extended_66 : decode b_Ref_extended 66 = .ok (.aload_n 0, 1) := by decide +kernel
theorem d_Ref_extended_67 : decode b_Ref_extended 67 = .ok (.getfield 88, 3) := by decide +kernel
theorem d_Ref_extended_70 : decode b_Ref_extended 70 = .ok (.iaload, 1) := by decide +kernel
theorem d_Ref_extended_71 : decode b_Ref_extended 71 = .ok (.invokestatic 103, 3) := by decide +kernel
theorem d_Ref_extended_74 : decode b_Ref_extended 74 = .ok (.invokevirtual 97, 3) := by decide +kernel
theorem d_Ref_extended_77 : decode b_Ref_extended 77 = .ok (.goto 156, 3) := by decide +kernel
theorem d_Ref_extended_80 : decode b_Ref_extended 80 = .ok (.iload_n 1, 1) := by decide +kernel
theorem d_Ref_extended_81 : decode b_Ref_extended 81 = .ok (.iconst 4, 1) := by decide +kernel
theorem d_Ref_extended_82 : decode b_Ref_extended 82 = .ok (.if_icmp .ne 19, 3) := by decide +kernel
theorem d_Ref_extended_85 : decode b_Ref_extended 85 = .ok (.aload_n 0, 1) := by decide +kernel
theorem d_Ref_extended_86 : decode b_Ref_extended 86 = .ok (.aload_n 0, 1) := by decide +kernel
theorem d_Ref_extended_87 : decode b_Ref_extended 87 = .ok (.getfield 7, 3) := by decide +kernel
theorem d_Ref_extended_90 : decode b_Ref_extended 90 = .ok (.aload_n 0, 1) := by decide +kernel
theorem d_Ref_extended_91 : decode b_Ref_extended 91 = .ok (.getfield 88, 3) := by decide +kernel
theorem d_Ref_extended_94 : decode b_Ref_extended 94 = .ok (.iaload, 1) := by decide +kernel
theorem d_Ref_extended_95 : decode b_Ref_extended 95 = .ok (.invokevirtual 120, 3) := by decide +kernel
theorem d_Ref_extended_98 : decode b_Ref_extended 98 = .ok (.goto 135, 3) := by decide +kernel
theorem d_Ref_extended_101 : decode b_Ref_extended 101 = .ok (.iload_n 1, 1) := by decide +kernel
theorem d_Ref_extended_102 : decode b_Ref_extended 102 = .ok (.bipush 23, 2) := by decide +kernel
theorem d_Ref_extended_104 : decode b_Ref_extended 104 = .ok (.if_icmp .eq 23, 3) := by decide +kernel
theorem d_Ref_extended_107 : decode b_Ref_extended 107 = .ok (.iload_n 1, 1) := by decide +kernel
theorem d_Ref_extended_108 : decode b_Ref_extended 108 = .ok (.bipush 87, 2) := by decide +kernel
theorem d_Ref_extended_110 : decode b_Ref_extended 110 = .ok (.if_icmp .eq 17, 3) := by decide +kernel
theorem d_Ref_extended_113 : decode b_Ref_extended 113 = .ok (.iload_n 1, 1) := by decide +kernel
theorem d_Ref_extended_114 : decode b_Ref_extended 114 = .ok (.sipush 151, 3) := by decide +kernel
theorem d_Ref_extended_117 : decode b_Ref_extended 117 = .ok (.if_icmp .eq 10, 3) := by decide +kernel
theorem d_Ref_extended_120 : decode b_Ref_extended 120 = .ok (.iload_n 1, 1) := by decide +kernel
theorem d_Ref_extended_121 : decode b_Ref_extended 121 = .ok (.sipush 215, 3) := by decide +kernel
theorem d_Ref_extended_124 : decode b_Ref_extended 124 = .ok (.if_icmp .ne 57, 3) := by decide +kernel
theorem d_Ref_extended_127 : decode b_Ref_extended 127 = .ok (.aload_n 0, 1) := by decide +kernel
theorem d_Ref_extended_128 : decode b_Ref_extended 128 = .ok (.invokevirtual 153, 3) := by decide +kernel
theorem d_Ref_extended_131 : decode b_Ref_extended 131 = .ok (.aload_n 0, 1) := by decide +kernel
theorem d_Ref_extended_132 : decode b_Ref_extended 132 = .ok (.getfield 7, 3) := by decide +kernel
theorem d_Ref_extended_135 : decode b_Ref_extended 135 = .ok (.aload_n 0, 1) := by decide +kernel
theorem d_Ref_extended_136 : decode b_Ref_extended 136 = .ok (.getfield 88, 3) := by decide +kernel
theorem d_Ref_extended_139 : decode b_Ref_extended 139 = .ok (.iaload, 1) := by decide +kernel
theorem d_Ref_extended_140 : decode b_Ref_extended 140 = .ok (.iadd, 1) := by decide +kernel
theorem d_Ref_extended_141 : decode b_Ref_extended 141 = .ok (.istore_n 2, 1) := by decide +kernel
theorem d_Ref_extended_142 : decode b_Ref_extended 142 = .ok (.aload_n 0, 1) := by decide +kernel
theorem d_Ref_extended_143 : decode b_Ref_extended 143 = .ok (.iload_n 2, 1) := by decide +kernel
theorem d_Ref_extended_144 : decode b_Ref_extended 144 = .ok (.iload_n 1, 1) := by decide +kernel
theorem d_Ref_extended_145 : decode b_Ref_extended 145 = .ok (.bipush 23, 2) := by decide +kernel
theorem d_Ref_extended_147 : decode b_Ref_extended 147 = .ok (.if_icmp .eq 10, 3) := by decide +kernel
theorem d_Ref_extended_150 : decode b_Ref_extended 150 = .ok (.iload_n 1, 1) := by decide +kernel
theorem d_Ref_extended_151 : decode b_Ref_extended 151 = .ok (.sipush 151, 3) := by decide +kernel
theorem d_Ref_extended_154 : decode b_Ref_extended 154 = .ok (.if_icmp .ne 7, 3) := by decide +kernel
theorem d_Ref_extended_157 : decode b_Ref_extended 157 = .ok (.iconst 4, 1) := by decide +kernel
theorem d_Ref_extended_158 : decode b_Ref_extended 158 = .ok (.goto 4, 3) := by decide +kernel
theorem d_Ref_extended_161 : decode b_Ref_extended 161 = .ok (.iconst 1, 1) := by decide +kernel
theorem d_Ref_extended_162 : decode b_Ref_extended 162 = .ok (.iload_n 1, 1) := by decide +kernel
theorem d_Ref_extended_163 : decode b_Ref_extended 163 = .ok (.bipush 100, 2) := by decide +kernel
theorem d_Ref_extended_165 : decode b_Ref_extended 165 = .ok (.if_icmp .le 7, 3) := by decide +kernel
theorem d_Ref_extended_168 : decode b_Ref_extended 168 = .ok (.iconst 2, 1) := by decide +kernel
theorem d_Ref_extended_169 : decode b_Ref_extended 169 = .ok (.goto 4, 3) := by decide +kernel
theorem d_Ref_extended_172 : decode b_Ref_extended 172 = .ok (.iconst 1, 1) := by decide +kernel
theorem d_Ref_extended_173 : decode b_Ref_extended 173 = .ok (.iconst 0, 1) := by decide +kernel
theorem d_Ref_extended_174 : decode b_Ref_extended 174 = .ok (.invokevirtual 178, 3) := by decide +kernel
theorem d_Ref_extended_177 : decode b_Ref_extended 177 = .ok (.pop, 1) := by decide +kernel
theorem d_Ref_extended_178 : decode b_Ref_extended 178 = .ok (.goto 55, 3) := by decide +kernel
theorem d_Ref_extended_181 : decode b_Ref_extended 181 = .ok (.aload_n 0, 1) := by decide +kernel
theorem d_Ref_extended_182 : decode b_Ref_extended 182 = .ok (.iload_n 1, 1) := by decide +kernel
theorem d_Ref_extended_183 : decode b_Ref_extended 183 = .ok (.invokevirtual 182, 3) := by decide +kernel
theorem d_Ref_extended_186 : decode b_Ref_extended 186 = .ok (.ifCond .ne 47, 3) := by decide +kernel
theorem d_Ref_extended_189 : decode b_Ref_extended 189 = .ok (.aload_n 0, 1) := by decide +kernel
theorem d_Ref_extended_190 : decode b_Ref_extended 190 = .ok (.iload_n 1, 1) := by decide +kernel
theorem d_Ref_extended_191 : decode b_Ref_extended 191 = .ok (.invokevirtual 185, 3) := by decide +kernel
theorem d_Ref_extended_194 : decode b_Ref_extended 194 = .ok (.ifCond .ne 39, 3) := by decide +kernel
theorem d_Ref_extended_197 : decode b_Ref_extended 197 = .ok (.aload_n 0, 1) := by decide +kernel
theorem d_Ref_extended_198 : decode b_Ref_extended 198 = .ok (.iload_n 1, 1) := by decide +kernel
theorem d_Ref_extended_199 : decode b_Ref_extended 199 = .ok (.invokevirtual 188, 3) := by decide +kernel
theorem d_Ref_extended_202 : decode b_Ref_extended 202 = .ok (.ifCond .ne 31, 3) := by decide +kernel
theorem d_Ref_extended_205 : decode b_Ref_extended 205 = .ok (.aload_n 0, 1) := by decide +kernel
theorem d_Ref_extended_206 : decode b_Ref_extended 206 = .ok (.iload_n 1, 1) := by decide +kernel
theorem d_Ref_extended_207 : decode b_Ref_extended 207 = .ok (.invokevirtual 191, 3) := by decide +kernel
theorem d_Ref_extended_210 : decode b_Ref_extended 210 = .ok (.ifCond .ne 23, 3) := by decide +kernel
theorem d_Ref_extended_213 : decode b_Ref_extended 213 = .ok (.aload_n 0, 1) := by decide +kernel
theorem d_Ref_extended_214 : decode b_Ref_extended 214 = .ok (.iload_n 1, 1) := by decide +kernel
theorem d_Ref_extended_215 : decode b_Ref_extended 215 = .ok (.invokevirtual 194, 3) := by decide +kernel
theorem d_Ref_extended_218 : decode b_Ref_extended 218 = .ok (.ifCond .ne 15, 3) := by decide +kernel
theorem d_Ref_extended_221 : decode b_Ref_extended 221 = .ok (.aload_n 0, 1) := by decide +kernel
theorem d_Ref_extended_222 : decode b_Ref_extended 222 = .ok (.iload_n 1, 1) := by decide +kernel
theorem d_Ref_extended_223 : decode b_Ref_extended 223 = .ok (.invokevirtual 197, 3) := by decide +kernel
theorem d_Ref_extended_226 : decode b_Ref_extended 226 = .ok (.ifCond .ne 7, 3) := by decide +kernel
theorem d_Ref_extended_229 : decode b_Ref_extended 229 = .ok (.aload_n 0, 1) := by decide +kernel
theorem d_Ref_extended_230 : decode b_Ref_extended 230 = .ok (.invokevirtual 145, 3) := by decide +kernel
theorem d_Ref_extended_233 : decode b_Ref_extended 233 = .ok (.return_, 1) := by decide +kernel
def f_Ref_extended (p0 : Int32) (rg : Nat → Int32) (rs : Nat → Int32) (rm : Nat → Int32) (rl : Int32) (rr : Int32) (re : Int32) (rc : Int32) (rd : Int32) (ra : Int32) (rb : Int32) (rn : Int32) (rf : Int32) (rw : Int32) : (Nat → Int32) × (Nat → Int32) × (Nat → Int32) × Int32 × Int32 × Int32 × Int32 × Int32 × Int32 :=
  if p0 = (0 : Int32) then
    (rg, (f_Ref_compare (shr rd (2 : Int32)) ((rg (ix ra)).toInt64) ((rg (ix rb)).toInt64) rs), rm, rl, rr, re, rn, rf, rw)
  else
    if p0 = (32 : Int32) then
      (rg, (f_Ref_compare (shr rd (2 : Int32)) (f_Ref_unsigned (rg (ix ra))) (f_Ref_unsigned (rg (ix rb))) rs), rm, rl, rr, re, rn, rf, rw)
    else
      if p0 = (4 : Int32) then
        let t113 := (f_Ref_trap (rg (ix rb)) rg rs rl rd ra rn rf)
        (rg, t113.1, rm, t113.2.1, rr, re, t113.2.2.1, t113.2.2.2, rw)
      else
        if p0 = (23 : Int32) then
          let t41 := (f_Ref_reached ((f_Ref_a0 rg ra) + (rg (ix rb))) (4 : Int32) (if p0 ≤ (100 : Int32) then (1 : Int32) else (2 : Int32)) (0 : Int32) rg rs rm rl rr re rd rn rf rw)
          (t41.2.1, t41.2.2.1, t41.2.2.2.1, t41.2.2.2.2.1, t41.2.2.2.2.2.1, t41.2.2.2.2.2.2.1, t41.2.2.2.2.2.2.2.1, t41.2.2.2.2.2.2.2.2.1, t41.2.2.2.2.2.2.2.2.2)
        else
          if p0 = (87 : Int32) then
            let t57 := (f_Ref_reached ((f_Ref_a0 rg ra) + (rg (ix rb))) (if p0 = (151 : Int32) then (4 : Int32) else (1 : Int32)) (if p0 ≤ (100 : Int32) then (1 : Int32) else (2 : Int32)) (0 : Int32) rg rs rm rl rr re rd rn rf rw)
            (t57.2.1, t57.2.2.1, t57.2.2.2.1, t57.2.2.2.2.1, t57.2.2.2.2.2.1, t57.2.2.2.2.2.2.1, t57.2.2.2.2.2.2.2.1, t57.2.2.2.2.2.2.2.2.1, t57.2.2.2.2.2.2.2.2.2)
          else
            if p0 = (151 : Int32) then
              let t69 := (f_Ref_reached ((f_Ref_a0 rg ra) + (rg (ix rb))) (4 : Int32) (if p0 ≤ (100 : Int32) then (1 : Int32) else (2 : Int32)) (0 : Int32) rg rs rm rl rr re rd rn rf rw)
              (t69.2.1, t69.2.2.1, t69.2.2.2.1, t69.2.2.2.2.1, t69.2.2.2.2.2.1, t69.2.2.2.2.2.2.1, t69.2.2.2.2.2.2.2.1, t69.2.2.2.2.2.2.2.2.1, t69.2.2.2.2.2.2.2.2.2)
            else
              if p0 = (215 : Int32) then
                let t112 := (f_Ref_reached ((f_Ref_a0 rg ra) + (rg (ix rb))) (1 : Int32) (if p0 ≤ (100 : Int32) then (1 : Int32) else (2 : Int32)) (0 : Int32) rg rs rm rl rr re rd rn rf rw)
                (t112.2.1, t112.2.2.1, t112.2.2.2.1, t112.2.2.2.2.1, t112.2.2.2.2.2.1, t112.2.2.2.2.2.2.1, t112.2.2.2.2.2.2.2.1, t112.2.2.2.2.2.2.2.2.1, t112.2.2.2.2.2.2.2.2.2)
              else
                let t74 := (f_Ref_logic p0 rg rs rc rd ra rb)
                if t74.1 = (0 : Int32) then
                  let t79 := (f_Ref_shifts p0 t74.2.1 t74.2.2 rc rd ra rb)
                  if t79.1 = (0 : Int32) then
                    let t84 := (f_Ref_arithmetic p0 t79.2.1 t79.2.2 rc rd ra rb)
                    if t84.1 = (0 : Int32) then
                      let t89 := (f_Ref_products p0 t84.2.1 t84.2.2 rc rd ra rb)
                      if t89.1 = (0 : Int32) then
                        let t94 := (f_Ref_system p0 t89.2.1 t89.2.2 rl rc rd ra rn rf)
                        if t94.1 = (0 : Int32) then
                          let t99 := (f_Ref_specials p0 t94.2.1 t94.2.2.1 t94.2.2.2.1 rd ra rb t94.2.2.2.2.1 t94.2.2.2.2.2)
                          if t99.1 = (0 : Int32) then
                            let t104 := (f_Ref_unlisted t99.2.2.1)
                            (t99.2.1, t104.1, rm, t104.2.1, rr, re, t104.2.2.1, t104.2.2.2, rw)
                          else
                            (t99.2.1, t99.2.2.1, rm, t99.2.2.2.1, rr, re, t99.2.2.2.2.1, t99.2.2.2.2.2, rw)
                        else
                          (t94.2.1, t94.2.2.1, rm, t94.2.2.2.1, rr, re, t94.2.2.2.2.1, t94.2.2.2.2.2, rw)
                      else
                        (t89.2.1, t89.2.2, rm, rl, rr, re, rn, rf, rw)
                    else
                      (t84.2.1, t84.2.2, rm, rl, rr, re, rn, rf, rw)
                  else
                    (t79.2.1, t79.2.2, rm, rl, rr, re, rn, rf, rw)
                else
                  (t74.2.1, t74.2.2, rm, rl, rr, re, rn, rf, rw)
def rq_Ref_extended (z : (Nat → Int32) × (Nat → Int32) × (Nat → Int32) × Int32 × Int32 × Int32 × Int32 × Int32 × Int32) : Prop := isB z.2.2.2.2.2.2.2.1
set_option maxHeartbeats 4000000 in
set_option maxRecDepth 100000 in
theorem rq0_Ref_extended (p0 : Int32) (rg : Nat → Int32) (rs : Nat → Int32) (rm : Nat → Int32) (rl : Int32) (rr : Int32) (re : Int32) (rc : Int32) (rd : Int32) (ra : Int32) (rb : Int32) (rn : Int32) (rf : Int32) (rw : Int32) (h : isB rf) : rq_Ref_extended (f_Ref_extended p0 rg rs rm rl rr re rc rd ra rb rn rf rw) := by
  unfold f_Ref_extended
  try dsimp only
  repeat' (with_reducible refine pred_ite ?_ ?_)
  all_goals (unfold rq_Ref_extended)
  all_goals (try dsimp only)
  all_goals first | with_reducible exact h | with_reducible exact ib0 | with_reducible exact ib1 | with_reducible exact rb_Ref_unlisted _ | with_reducible exact rb_Ref_trap _ _ _ _ _ _ _ _ (by first | with_reducible exact h | with_reducible exact ib0 | with_reducible exact ib1 | with_reducible exact rb_Ref_unlisted _ | with_reducible exact rb_Ref_trap _ _ _ _ _ _ _ _ (by first | with_reducible exact h | with_reducible exact ib0 | with_reducible exact ib1 | with_reducible exact rb_Ref_unlisted _) | with_reducible exact rb_Ref_reached _ _ _ _ _ _ _ _ _ _ _ _ _ _ (by first | with_reducible exact h | with_reducible exact ib0 | with_reducible exact ib1 | with_reducible exact rb_Ref_unlisted _) | with_reducible exact rb_Ref_system _ _ _ _ _ _ _ _ _ (by first | with_reducible exact h | with_reducible exact ib0 | with_reducible exact ib1 | with_reducible exact rb_Ref_unlisted _) | with_reducible exact rb_Ref_specials _ _ _ _ _ _ _ _ _ (by first | with_reducible exact h | with_reducible exact ib0 | with_reducible exact ib1 | with_reducible exact rb_Ref_unlisted _)) | with_reducible exact rb_Ref_reached _ _ _ _ _ _ _ _ _ _ _ _ _ _ (by first | with_reducible exact h | with_reducible exact ib0 | with_reducible exact ib1 | with_reducible exact rb_Ref_unlisted _ | with_reducible exact rb_Ref_trap _ _ _ _ _ _ _ _ (by first | with_reducible exact h | with_reducible exact ib0 | with_reducible exact ib1 | with_reducible exact rb_Ref_unlisted _) | with_reducible exact rb_Ref_reached _ _ _ _ _ _ _ _ _ _ _ _ _ _ (by first | with_reducible exact h | with_reducible exact ib0 | with_reducible exact ib1 | with_reducible exact rb_Ref_unlisted _) | with_reducible exact rb_Ref_system _ _ _ _ _ _ _ _ _ (by first | with_reducible exact h | with_reducible exact ib0 | with_reducible exact ib1 | with_reducible exact rb_Ref_unlisted _) | with_reducible exact rb_Ref_specials _ _ _ _ _ _ _ _ _ (by first | with_reducible exact h | with_reducible exact ib0 | with_reducible exact ib1 | with_reducible exact rb_Ref_unlisted _)) | with_reducible exact rb_Ref_system _ _ _ _ _ _ _ _ _ (by first | with_reducible exact h | with_reducible exact ib0 | with_reducible exact ib1 | with_reducible exact rb_Ref_unlisted _ | with_reducible exact rb_Ref_trap _ _ _ _ _ _ _ _ (by first | with_reducible exact h | with_reducible exact ib0 | with_reducible exact ib1 | with_reducible exact rb_Ref_unlisted _) | with_reducible exact rb_Ref_reached _ _ _ _ _ _ _ _ _ _ _ _ _ _ (by first | with_reducible exact h | with_reducible exact ib0 | with_reducible exact ib1 | with_reducible exact rb_Ref_unlisted _) | with_reducible exact rb_Ref_system _ _ _ _ _ _ _ _ _ (by first | with_reducible exact h | with_reducible exact ib0 | with_reducible exact ib1 | with_reducible exact rb_Ref_unlisted _) | with_reducible exact rb_Ref_specials _ _ _ _ _ _ _ _ _ (by first | with_reducible exact h | with_reducible exact ib0 | with_reducible exact ib1 | with_reducible exact rb_Ref_unlisted _)) | with_reducible exact rb_Ref_specials _ _ _ _ _ _ _ _ _ (by first | with_reducible exact h | with_reducible exact ib0 | with_reducible exact ib1 | with_reducible exact rb_Ref_unlisted _ | with_reducible exact rb_Ref_trap _ _ _ _ _ _ _ _ (by first | with_reducible exact h | with_reducible exact ib0 | with_reducible exact ib1 | with_reducible exact rb_Ref_unlisted _) | with_reducible exact rb_Ref_reached _ _ _ _ _ _ _ _ _ _ _ _ _ _ (by first | with_reducible exact h | with_reducible exact ib0 | with_reducible exact ib1 | with_reducible exact rb_Ref_unlisted _) | with_reducible exact rb_Ref_system _ _ _ _ _ _ _ _ _ (by first | with_reducible exact h | with_reducible exact ib0 | with_reducible exact ib1 | with_reducible exact rb_Ref_unlisted _) | with_reducible exact rb_Ref_specials _ _ _ _ _ _ _ _ _ (by first | with_reducible exact h | with_reducible exact ib0 | with_reducible exact ib1 | with_reducible exact rb_Ref_unlisted _))
theorem rb_Ref_extended (p0 : Int32) (rg : Nat → Int32) (rs : Nat → Int32) (rm : Nat → Int32) (rl : Int32) (rr : Int32) (re : Int32) (rc : Int32) (rd : Int32) (ra : Int32) (rb : Int32) (rn : Int32) (rf : Int32) (rw : Int32) (h : isB rf) : isB (f_Ref_extended p0 rg rs rm rl rr re rc rd ra rb rn rf rw).2.2.2.2.2.2.2.1 := rq0_Ref_extended p0 rg rs rm rl rr re rc rd ra rb rn rf rw h
set_option maxHeartbeats 4000000 in
set_option maxRecDepth 100000 in
theorem c_Ref_extended (l : Launch) (D : va_G) (aT bG bS bM : Nat) (dG dS dM : ClassId) (rg : Nat → Int32) (rs : Nat → Int32) (rm : Nat → Int32) (rl : Int32) (rk : Int32) (rr : Int32) (re : Int32) (rc : Int32) (rd : Int32) (ra : Int32) (rb : Int32) (rn : Int32) (rf : Int32) (rw : Int32) (p0 : Int32) (hra : vp_in ra 32) (hrd : vp_in rd 32) (hrb : vp_in rb 32) : kMv l y_Ref_extended b_Ref_extended 3 none 5 133 D kCl [(dG, .int), (dS, .int), (dM, .int)] [.ref aT, .int p0] [(aT, .inr (11, [.ref bG, .ref bS, .ref bM, .int rl, .int rk, .int rr, .int re, .int rc, .int rd, .int ra, .int rb, .int rn, .int rf, .int rw])), (bG, .inl (dG, 32, .inl rg)), (bS, .inl (dS, 48, .inl rs)), (bM, .inl (dM, 16384, .inl rm))] [(aT, .inr (11, [.ref bG, .ref bS, .ref bM, .int (f_Ref_extended p0 rg rs rm rl rr re rc rd ra rb rn rf rw).2.2.2.1, .int rk, .int (f_Ref_extended p0 rg rs rm rl rr re rc rd ra rb rn rf rw).2.2.2.2.1, .int (f_Ref_extended p0 rg rs rm rl rr re rc rd ra rb rn rf rw).2.2.2.2.2.1, .int rc, .int rd, .int ra, .int rb, .int (f_Ref_extended p0 rg rs rm rl rr re rc rd ra rb rn rf rw).2.2.2.2.2.2.1, .int (f_Ref_extended p0 rg rs rm rl rr re rc rd ra rb rn rf rw).2.2.2.2.2.2.2.1, .int (f_Ref_extended p0 rg rs rm rl rr re rc rd ra rb rn rf rw).2.2.2.2.2.2.2.2])), (bG, .inl (dG, 32, .inl (f_Ref_extended p0 rg rs rm rl rr re rc rd ra rb rn rf rw).1)), (bS, .inl (dS, 48, .inl (f_Ref_extended p0 rg rs rm rl rr re rc rd ra rb rn rf rw).2.1)), (bM, .inl (dM, 16384, .inl (f_Ref_extended p0 rg rs rm rl rr re rc rd ra rb rn rf rw).2.2.1))] := by
  refine k_entry (Qc := fun A => kQv D kCl [(dG, .int), (dS, .int), (dM, .int)] [(aT, .inr (11, [.ref bG, .ref bS, .ref bM, .int (f_Ref_extended p0 rg rs rm rl rr re rc rd ra rb rn rf rw).2.2.2.1, .int rk, .int (f_Ref_extended p0 rg rs rm rl rr re rc rd ra rb rn rf rw).2.2.2.2.1, .int (f_Ref_extended p0 rg rs rm rl rr re rc rd ra rb rn rf rw).2.2.2.2.2.1, .int rc, .int rd, .int ra, .int rb, .int (f_Ref_extended p0 rg rs rm rl rr re rc rd ra rb rn rf rw).2.2.2.2.2.2.1, .int (f_Ref_extended p0 rg rs rm rl rr re rc rd ra rb rn rf rw).2.2.2.2.2.2.2.1, .int (f_Ref_extended p0 rg rs rm rl rr re rc rd ra rb rn rf rw).2.2.2.2.2.2.2.2])), (bG, .inl (dG, 32, .inl (f_Ref_extended p0 rg rs rm rl rr re rc rd ra rb rn rf rw).1)), (bS, .inl (dS, 48, .inl (f_Ref_extended p0 rg rs rm rl rr re rc rd ra rb rn rf rw).2.1)), (bM, .inl (dM, 16384, .inl (f_Ref_extended p0 rg rs rm rl rr re rc rd ra rb rn rf rw).2.2.1))] A) (lv := [(0, .ref aT), (1, .int p0)]) (by decide) (Nat.le_of_ble_eq_true rfl) rfl ?_
  intro p e s m below meth c A ls hx hb hr hml hB hown hlocks hin hA hK hN hP hD hS hl
  have hown : s.vm.findClass "MappedProcessorModel" = some m.cls := hown
  refine lv_iload_n hx hb d_Ref_extended_0 rfl (lv_at hl 1 rfl) ?_
  refine lv_if_ne (tgt := 37) hx hb d_Ref_extended_1 (by decide) (fun (h13 : ¬ p0 = (0 : Int32)) => ?_) (fun (h13 : p0 = (0 : Int32)) => ?_)
  · refine lv_iload_n hx hb d_Ref_extended_37 rfl (lv_at hl 1 rfl) ?_
    refine lv_bipush (v := (32 : Int32)) hx hb d_Ref_extended_38 (by decide) ?_
    refine lv_icmp_ne (tgt := 80) hx hb d_Ref_extended_40 (by decide) (fun (h23 : ¬ p0 = (32 : Int32)) => ?_) (fun (h23 : p0 = (32 : Int32)) => ?_)
    · refine lv_iload_n hx hb d_Ref_extended_80 rfl (lv_at hl 1 rfl) ?_
      refine lv_iconst (v := (4 : Int32)) hx hb d_Ref_extended_81 (by decide) ?_
      refine lv_icmp_ne (tgt := 101) hx hb d_Ref_extended_82 (by decide) (fun (h30 : ¬ p0 = (4 : Int32)) => ?_) (fun (h30 : p0 = (4 : Int32)) => ?_)
      · refine lv_iload_n hx hb d_Ref_extended_101 rfl (lv_at hl 1 rfl) ?_
        refine lv_bipush (v := (23 : Int32)) hx hb d_Ref_extended_102 (by decide) ?_
        refine lv_icmp_eq (tgt := 127) hx hb d_Ref_extended_104 (by decide) (fun (h34 : p0 = (23 : Int32)) => ?_) (fun (h34 : ¬ p0 = (23 : Int32)) => ?_)
        · refine lv_aload_n hx hb d_Ref_extended_127 rfl (lv_at hl 0 rfl) ?_
          refine k_cVi (As := []) (rest := []) (wr := []) (wj := [(aT, .inr (11, [.ref bG, .ref bS, .ref bM, .int rl, .int rk, .int rr, .int re, .int rc, .int rd, .int ra, .int rb, .int rn, .int rf, .int rw])), (bG, .inl (dG, 32, .inl rg)), (bS, .inl (dS, 48, .inl rs)), (bM, .inl (dM, 16384, .inl rm))]) ⟨hx, hb, hml, hown, hB⟩ (c_Ref_a0 l D aT bG bS bM dG dS dM rg rs rm rl rk rr re rc rd ra rb rn rf rw hra) yl_Ref_a0 mw_801 hK hN hP hD hS hA [0, 1, 2] [0, 1, 2, 3] [] [0, 1, 2, 3] rfl rfl rfl rfl (by decide +kernel) 0 rfl rfl rfl rfl hl.1 rfl (Nat.le_of_ble_eq_true rfl) ⟨Nat.le_of_ble_eq_true rfl, Nat.le_of_ble_eq_true rfl⟩ d_Ref_extended_128 ⟨Nat.le_of_ble_eq_true rfl, Nat.le_of_ble_eq_true rfl⟩ (fun H locs hP hD hS => ?_)
          refine lv_aload_n hx hb d_Ref_extended_131 rfl (lv_at hl 0 rfl) ?_
          refine va_get (D := D) (ci := 11) (v := .ref bG) (C := "MappedProcessorModel") (T := T_Ref) (N := 14) hx hb hB iw_Ref hown hK hP 0 rfl rfl 0 (by decide) (hB _ mw_643) (fun _ h9 => h9) rfl d_Ref_extended_132 ?_
          refine lv_aload_n hx hb d_Ref_extended_135 rfl (lv_at hl 0 rfl) ?_
          refine va_get (D := D) (ci := 11) (v := .int rb) (C := "MappedProcessorModel") (T := T_Ref) (N := 14) hx hb hB iw_Ref hown hK hP 0 rfl rfl 10 (by decide) (hB _ mw_653) (fun _ h9 => h9) rfl d_Ref_extended_136 ?_
          refine k_iald (j := (ix rb)) hx hb hK hP 1 0 rfl rfl rfl hrb d_Ref_extended_139 ?_
          refine lv_iadd hx hb d_Ref_extended_140 ?_
          refine lv_istore_n (lv' := [(2, .int ((f_Ref_a0 rg ra) + (rg (ix rb)))), (0, .ref aT), (1, .int p0)]) hx hb d_Ref_extended_141 rfl hl (by decide) rfl (fun ls hl => ?_)
          refine lv_aload_n hx hb d_Ref_extended_142 rfl (lv_at hl 1 rfl) ?_
          refine lv_iload_n hx hb d_Ref_extended_143 rfl (lv_at hl 0 rfl) ?_
          refine lv_iload_n hx hb d_Ref_extended_144 rfl (lv_at hl 2 rfl) ?_
          refine lv_bipush (v := (23 : Int32)) hx hb d_Ref_extended_145 (by decide) ?_
          refine lv_icmp_eq (tgt := 157) hx hb d_Ref_extended_147 (by decide) (fun (h35 : p0 = (23 : Int32)) => ?_) (fun (h35 : ¬ p0 = (23 : Int32)) => ?_)
          rotate_left
          · exact absurd h34 h35
          refine lv_iconst (v := (4 : Int32)) hx hb d_Ref_extended_157 (by decide) ?_
          refine lv_goto (tgt := 162) hx hb d_Ref_extended_158 (by decide) ?_
          refine lv_iload_n hx hb d_Ref_extended_162 rfl (lv_at hl 2 rfl) ?_
          refine lv_bipush (v := (100 : Int32)) hx hb d_Ref_extended_163 (by decide) ?_
          refine k_join2 (c0 := p0 ≤ (100 : Int32)) (x1 := (1 : Int32)) (x2 := (2 : Int32)) (rest := [.int (4 : Int32), .int ((f_Ref_a0 rg ra) + (rg (ix rb))), .ref aT]) 173 ?_ (fun k37 k38 => ?_)
          rotate_left
          · refine lv_icmp_le (tgt := 172) hx hb d_Ref_extended_165 (by decide) (fun (h36 : p0 ≤ (100 : Int32)) => ?_) (fun (h36 : ¬ p0 ≤ (100 : Int32)) => ?_)
            · refine lv_iconst (v := (1 : Int32)) hx hb d_Ref_extended_172 (by decide) ?_
              exact k37 h36
            · refine lv_iconst (v := (2 : Int32)) hx hb d_Ref_extended_168 (by decide) ?_
              refine lv_goto (tgt := 173) hx hb d_Ref_extended_169 (by decide) ?_
              exact k38 h36
          refine lv_iconst (v := (0 : Int32)) hx hb d_Ref_extended_173 (by decide) ?_
          let t41 := (f_Ref_reached ((f_Ref_a0 rg ra) + (rg (ix rb))) (4 : Int32) (if p0 ≤ (100 : Int32) then (1 : Int32) else (2 : Int32)) (0 : Int32) rg rs rm rl rr re rd rn rf rw)
          refine k_cVi (As := [.int ((f_Ref_a0 rg ra) + (rg (ix rb))), .int (4 : Int32), .int (if p0 ≤ (100 : Int32) then (1 : Int32) else (2 : Int32)), .int (0 : Int32)]) (rest := []) (wr := []) (wj := [(aT, .inr (11, [.ref bG, .ref bS, .ref bM, .int t41.2.2.2.2.1, .int rk, .int t41.2.2.2.2.2.1, .int t41.2.2.2.2.2.2.1, .int rc, .int rd, .int ra, .int rb, .int t41.2.2.2.2.2.2.2.1, .int t41.2.2.2.2.2.2.2.2.1, .int t41.2.2.2.2.2.2.2.2.2])), (bG, .inl (dG, 32, .inl t41.2.1)), (bS, .inl (dS, 48, .inl t41.2.2.1)), (bM, .inl (dM, 16384, .inl t41.2.2.2.1))]) ⟨hx, hb, hml, hown, hB⟩ (c_Ref_reached l D aT bG bS bM dG dS dM rg rs rm rl rk rr re rc rd ra rb rn rf rw ((f_Ref_a0 rg ra) + (rg (ix rb))) (4 : Int32) (if p0 ≤ (100 : Int32) then (1 : Int32) else (2 : Int32)) (0 : Int32) hrd) yl_Ref_reached mw_854 hK hN hP hD hS hA [0, 1, 2] [0, 1, 2, 3] [] [0, 1, 2, 3] rfl rfl rfl rfl (by decide +kernel) 0 rfl rfl rfl rfl hl.1 rfl (Nat.le_of_ble_eq_true rfl) ⟨Nat.le_of_ble_eq_true rfl, Nat.le_of_ble_eq_true rfl⟩ d_Ref_extended_174 ⟨Nat.le_of_ble_eq_true rfl, Nat.le_of_ble_eq_true rfl⟩ (fun H locs hP hD hS => ?_)
          refine lv_pop hx hb d_Ref_extended_177 rfl ?_
          refine lv_goto (tgt := 233) hx hb d_Ref_extended_178 (by decide) ?_
          have ef : f_Ref_extended p0 rg rs rm rl rr re rc rd ra rb rn rf rw = (t41.2.1, t41.2.2.1, t41.2.2.2.1, t41.2.2.2.2.1, t41.2.2.2.2.2.1, t41.2.2.2.2.2.2.1, t41.2.2.2.2.2.2.2.1, t41.2.2.2.2.2.2.2.2.1, t41.2.2.2.2.2.2.2.2.2) := by unfold f_Ref_extended; try dsimp only; rw [if_neg h13, if_neg h23, if_neg h30, if_pos h34]
          exact k_vret hx hb hr hlocks hK hP hD hS [0, 1, 2, 3] rfl (by rw [ef] <;> rfl) d_Ref_extended_233
        · refine lv_iload_n hx hb d_Ref_extended_107 rfl (lv_at hl 1 rfl) ?_
          refine lv_bipush (v := (87 : Int32)) hx hb d_Ref_extended_108 (by decide) ?_
          refine lv_icmp_eq (tgt := 127) hx hb d_Ref_extended_110 (by decide) (fun (h45 : p0 = (87 : Int32)) => ?_) (fun (h45 : ¬ p0 = (87 : Int32)) => ?_)
          · refine lv_aload_n hx hb d_Ref_extended_127 rfl (lv_at hl 0 rfl) ?_
            refine k_cVi (As := []) (rest := []) (wr := []) (wj := [(aT, .inr (11, [.ref bG, .ref bS, .ref bM, .int rl, .int rk, .int rr, .int re, .int rc, .int rd, .int ra, .int rb, .int rn, .int rf, .int rw])), (bG, .inl (dG, 32, .inl rg)), (bS, .inl (dS, 48, .inl rs)), (bM, .inl (dM, 16384, .inl rm))]) ⟨hx, hb, hml, hown, hB⟩ (c_Ref_a0 l D aT bG bS bM dG dS dM rg rs rm rl rk rr re rc rd ra rb rn rf rw hra) yl_Ref_a0 mw_801 hK hN hP hD hS hA [0, 1, 2] [0, 1, 2, 3] [] [0, 1, 2, 3] rfl rfl rfl rfl (by decide +kernel) 0 rfl rfl rfl rfl hl.1 rfl (Nat.le_of_ble_eq_true rfl) ⟨Nat.le_of_ble_eq_true rfl, Nat.le_of_ble_eq_true rfl⟩ d_Ref_extended_128 ⟨Nat.le_of_ble_eq_true rfl, Nat.le_of_ble_eq_true rfl⟩ (fun H locs hP hD hS => ?_)
            refine lv_aload_n hx hb d_Ref_extended_131 rfl (lv_at hl 0 rfl) ?_
            refine va_get (D := D) (ci := 11) (v := .ref bG) (C := "MappedProcessorModel") (T := T_Ref) (N := 14) hx hb hB iw_Ref hown hK hP 0 rfl rfl 0 (by decide) (hB _ mw_643) (fun _ h9 => h9) rfl d_Ref_extended_132 ?_
            refine lv_aload_n hx hb d_Ref_extended_135 rfl (lv_at hl 0 rfl) ?_
            refine va_get (D := D) (ci := 11) (v := .int rb) (C := "MappedProcessorModel") (T := T_Ref) (N := 14) hx hb hB iw_Ref hown hK hP 0 rfl rfl 10 (by decide) (hB _ mw_653) (fun _ h9 => h9) rfl d_Ref_extended_136 ?_
            refine k_iald (j := (ix rb)) hx hb hK hP 1 0 rfl rfl rfl hrb d_Ref_extended_139 ?_
            refine lv_iadd hx hb d_Ref_extended_140 ?_
            refine lv_istore_n (lv' := [(2, .int ((f_Ref_a0 rg ra) + (rg (ix rb)))), (0, .ref aT), (1, .int p0)]) hx hb d_Ref_extended_141 rfl hl (by decide) rfl (fun ls hl => ?_)
            refine lv_aload_n hx hb d_Ref_extended_142 rfl (lv_at hl 1 rfl) ?_
            refine lv_iload_n hx hb d_Ref_extended_143 rfl (lv_at hl 0 rfl) ?_
            refine lv_iload_n hx hb d_Ref_extended_144 rfl (lv_at hl 2 rfl) ?_
            refine lv_bipush (v := (23 : Int32)) hx hb d_Ref_extended_145 (by decide) ?_
            refine lv_icmp_eq (tgt := 157) hx hb d_Ref_extended_147 (by decide) (fun (h46 : p0 = (23 : Int32)) => ?_) (fun (h46 : ¬ p0 = (23 : Int32)) => ?_)
            · exact absurd h46 h34
            refine lv_iload_n hx hb d_Ref_extended_150 rfl (lv_at hl 2 rfl) ?_
            refine lv_sipush (v := (151 : Int32)) hx hb d_Ref_extended_151 (by decide) ?_
            refine k_join2 (c0 := p0 = (151 : Int32)) (x1 := (4 : Int32)) (x2 := (1 : Int32)) (rest := [.int ((f_Ref_a0 rg ra) + (rg (ix rb))), .ref aT]) 162 ?_ (fun k48 k49 => ?_)
            rotate_left
            · refine lv_icmp_ne (tgt := 161) hx hb d_Ref_extended_154 (by decide) (fun (h47 : ¬ p0 = (151 : Int32)) => ?_) (fun (h47 : p0 = (151 : Int32)) => ?_)
              · refine lv_iconst (v := (1 : Int32)) hx hb d_Ref_extended_161 (by decide) ?_
                exact k49 h47
              · refine lv_iconst (v := (4 : Int32)) hx hb d_Ref_extended_157 (by decide) ?_
                refine lv_goto (tgt := 162) hx hb d_Ref_extended_158 (by decide) ?_
                exact k48 h47
            refine lv_iload_n hx hb d_Ref_extended_162 rfl (lv_at hl 2 rfl) ?_
            refine lv_bipush (v := (100 : Int32)) hx hb d_Ref_extended_163 (by decide) ?_
            refine k_join2 (c0 := p0 ≤ (100 : Int32)) (x1 := (1 : Int32)) (x2 := (2 : Int32)) (rest := [.int (if p0 = (151 : Int32) then (4 : Int32) else (1 : Int32)), .int ((f_Ref_a0 rg ra) + (rg (ix rb))), .ref aT]) 173 ?_ (fun k53 k54 => ?_)
            rotate_left
            · refine lv_icmp_le (tgt := 172) hx hb d_Ref_extended_165 (by decide) (fun (h52 : p0 ≤ (100 : Int32)) => ?_) (fun (h52 : ¬ p0 ≤ (100 : Int32)) => ?_)
              · refine lv_iconst (v := (1 : Int32)) hx hb d_Ref_extended_172 (by decide) ?_
                exact k53 h52
              · refine lv_iconst (v := (2 : Int32)) hx hb d_Ref_extended_168 (by decide) ?_
                refine lv_goto (tgt := 173) hx hb d_Ref_extended_169 (by decide) ?_
                exact k54 h52
            refine lv_iconst (v := (0 : Int32)) hx hb d_Ref_extended_173 (by decide) ?_
            let t57 := (f_Ref_reached ((f_Ref_a0 rg ra) + (rg (ix rb))) (if p0 = (151 : Int32) then (4 : Int32) else (1 : Int32)) (if p0 ≤ (100 : Int32) then (1 : Int32) else (2 : Int32)) (0 : Int32) rg rs rm rl rr re rd rn rf rw)
            refine k_cVi (As := [.int ((f_Ref_a0 rg ra) + (rg (ix rb))), .int (if p0 = (151 : Int32) then (4 : Int32) else (1 : Int32)), .int (if p0 ≤ (100 : Int32) then (1 : Int32) else (2 : Int32)), .int (0 : Int32)]) (rest := []) (wr := []) (wj := [(aT, .inr (11, [.ref bG, .ref bS, .ref bM, .int t57.2.2.2.2.1, .int rk, .int t57.2.2.2.2.2.1, .int t57.2.2.2.2.2.2.1, .int rc, .int rd, .int ra, .int rb, .int t57.2.2.2.2.2.2.2.1, .int t57.2.2.2.2.2.2.2.2.1, .int t57.2.2.2.2.2.2.2.2.2])), (bG, .inl (dG, 32, .inl t57.2.1)), (bS, .inl (dS, 48, .inl t57.2.2.1)), (bM, .inl (dM, 16384, .inl t57.2.2.2.1))]) ⟨hx, hb, hml, hown, hB⟩ (c_Ref_reached l D aT bG bS bM dG dS dM rg rs rm rl rk rr re rc rd ra rb rn rf rw ((f_Ref_a0 rg ra) + (rg (ix rb))) (if p0 = (151 : Int32) then (4 : Int32) else (1 : Int32)) (if p0 ≤ (100 : Int32) then (1 : Int32) else (2 : Int32)) (0 : Int32) hrd) yl_Ref_reached mw_854 hK hN hP hD hS hA [0, 1, 2] [0, 1, 2, 3] [] [0, 1, 2, 3] rfl rfl rfl rfl (by decide +kernel) 0 rfl rfl rfl rfl hl.1 rfl (Nat.le_of_ble_eq_true rfl) ⟨Nat.le_of_ble_eq_true rfl, Nat.le_of_ble_eq_true rfl⟩ d_Ref_extended_174 ⟨Nat.le_of_ble_eq_true rfl, Nat.le_of_ble_eq_true rfl⟩ (fun H locs hP hD hS => ?_)
            refine lv_pop hx hb d_Ref_extended_177 rfl ?_
            refine lv_goto (tgt := 233) hx hb d_Ref_extended_178 (by decide) ?_
            have ef : f_Ref_extended p0 rg rs rm rl rr re rc rd ra rb rn rf rw = (t57.2.1, t57.2.2.1, t57.2.2.2.1, t57.2.2.2.2.1, t57.2.2.2.2.2.1, t57.2.2.2.2.2.2.1, t57.2.2.2.2.2.2.2.1, t57.2.2.2.2.2.2.2.2.1, t57.2.2.2.2.2.2.2.2.2) := by unfold f_Ref_extended; try dsimp only; rw [if_neg h13, if_neg h23, if_neg h30, if_neg h34, if_pos h45]
            exact k_vret hx hb hr hlocks hK hP hD hS [0, 1, 2, 3] rfl (by rw [ef] <;> rfl) d_Ref_extended_233
          · refine lv_iload_n hx hb d_Ref_extended_113 rfl (lv_at hl 1 rfl) ?_
            refine lv_sipush (v := (151 : Int32)) hx hb d_Ref_extended_114 (by decide) ?_
            refine lv_icmp_eq (tgt := 127) hx hb d_Ref_extended_117 (by decide) (fun (h61 : p0 = (151 : Int32)) => ?_) (fun (h61 : ¬ p0 = (151 : Int32)) => ?_)
            · refine lv_aload_n hx hb d_Ref_extended_127 rfl (lv_at hl 0 rfl) ?_
              refine k_cVi (As := []) (rest := []) (wr := []) (wj := [(aT, .inr (11, [.ref bG, .ref bS, .ref bM, .int rl, .int rk, .int rr, .int re, .int rc, .int rd, .int ra, .int rb, .int rn, .int rf, .int rw])), (bG, .inl (dG, 32, .inl rg)), (bS, .inl (dS, 48, .inl rs)), (bM, .inl (dM, 16384, .inl rm))]) ⟨hx, hb, hml, hown, hB⟩ (c_Ref_a0 l D aT bG bS bM dG dS dM rg rs rm rl rk rr re rc rd ra rb rn rf rw hra) yl_Ref_a0 mw_801 hK hN hP hD hS hA [0, 1, 2] [0, 1, 2, 3] [] [0, 1, 2, 3] rfl rfl rfl rfl (by decide +kernel) 0 rfl rfl rfl rfl hl.1 rfl (Nat.le_of_ble_eq_true rfl) ⟨Nat.le_of_ble_eq_true rfl, Nat.le_of_ble_eq_true rfl⟩ d_Ref_extended_128 ⟨Nat.le_of_ble_eq_true rfl, Nat.le_of_ble_eq_true rfl⟩ (fun H locs hP hD hS => ?_)
              refine lv_aload_n hx hb d_Ref_extended_131 rfl (lv_at hl 0 rfl) ?_
              refine va_get (D := D) (ci := 11) (v := .ref bG) (C := "MappedProcessorModel") (T := T_Ref) (N := 14) hx hb hB iw_Ref hown hK hP 0 rfl rfl 0 (by decide) (hB _ mw_643) (fun _ h9 => h9) rfl d_Ref_extended_132 ?_
              refine lv_aload_n hx hb d_Ref_extended_135 rfl (lv_at hl 0 rfl) ?_
              refine va_get (D := D) (ci := 11) (v := .int rb) (C := "MappedProcessorModel") (T := T_Ref) (N := 14) hx hb hB iw_Ref hown hK hP 0 rfl rfl 10 (by decide) (hB _ mw_653) (fun _ h9 => h9) rfl d_Ref_extended_136 ?_
              refine k_iald (j := (ix rb)) hx hb hK hP 1 0 rfl rfl rfl hrb d_Ref_extended_139 ?_
              refine lv_iadd hx hb d_Ref_extended_140 ?_
              refine lv_istore_n (lv' := [(2, .int ((f_Ref_a0 rg ra) + (rg (ix rb)))), (0, .ref aT), (1, .int p0)]) hx hb d_Ref_extended_141 rfl hl (by decide) rfl (fun ls hl => ?_)
              refine lv_aload_n hx hb d_Ref_extended_142 rfl (lv_at hl 1 rfl) ?_
              refine lv_iload_n hx hb d_Ref_extended_143 rfl (lv_at hl 0 rfl) ?_
              refine lv_iload_n hx hb d_Ref_extended_144 rfl (lv_at hl 2 rfl) ?_
              refine lv_bipush (v := (23 : Int32)) hx hb d_Ref_extended_145 (by decide) ?_
              refine lv_icmp_eq (tgt := 157) hx hb d_Ref_extended_147 (by decide) (fun (h62 : p0 = (23 : Int32)) => ?_) (fun (h62 : ¬ p0 = (23 : Int32)) => ?_)
              · exact absurd h62 h34
              refine lv_iload_n hx hb d_Ref_extended_150 rfl (lv_at hl 2 rfl) ?_
              refine lv_sipush (v := (151 : Int32)) hx hb d_Ref_extended_151 (by decide) ?_
              refine lv_icmp_ne (tgt := 161) hx hb d_Ref_extended_154 (by decide) (fun (h63 : ¬ p0 = (151 : Int32)) => ?_) (fun (h63 : p0 = (151 : Int32)) => ?_)
              · exact absurd h61 h63
              refine lv_iconst (v := (4 : Int32)) hx hb d_Ref_extended_157 (by decide) ?_
              refine lv_goto (tgt := 162) hx hb d_Ref_extended_158 (by decide) ?_
              refine lv_iload_n hx hb d_Ref_extended_162 rfl (lv_at hl 2 rfl) ?_
              refine lv_bipush (v := (100 : Int32)) hx hb d_Ref_extended_163 (by decide) ?_
              refine k_join2 (c0 := p0 ≤ (100 : Int32)) (x1 := (1 : Int32)) (x2 := (2 : Int32)) (rest := [.int (4 : Int32), .int ((f_Ref_a0 rg ra) + (rg (ix rb))), .ref aT]) 173 ?_ (fun k65 k66 => ?_)
              rotate_left
              · refine lv_icmp_le (tgt := 172) hx hb d_Ref_extended_165 (by decide) (fun (h64 : p0 ≤ (100 : Int32)) => ?_) (fun (h64 : ¬ p0 ≤ (100 : Int32)) => ?_)
                · refine lv_iconst (v := (1 : Int32)) hx hb d_Ref_extended_172 (by decide) ?_
                  exact k65 h64
                · refine lv_iconst (v := (2 : Int32)) hx hb d_Ref_extended_168 (by decide) ?_
                  refine lv_goto (tgt := 173) hx hb d_Ref_extended_169 (by decide) ?_
                  exact k66 h64
              refine lv_iconst (v := (0 : Int32)) hx hb d_Ref_extended_173 (by decide) ?_
              let t69 := (f_Ref_reached ((f_Ref_a0 rg ra) + (rg (ix rb))) (4 : Int32) (if p0 ≤ (100 : Int32) then (1 : Int32) else (2 : Int32)) (0 : Int32) rg rs rm rl rr re rd rn rf rw)
              refine k_cVi (As := [.int ((f_Ref_a0 rg ra) + (rg (ix rb))), .int (4 : Int32), .int (if p0 ≤ (100 : Int32) then (1 : Int32) else (2 : Int32)), .int (0 : Int32)]) (rest := []) (wr := []) (wj := [(aT, .inr (11, [.ref bG, .ref bS, .ref bM, .int t69.2.2.2.2.1, .int rk, .int t69.2.2.2.2.2.1, .int t69.2.2.2.2.2.2.1, .int rc, .int rd, .int ra, .int rb, .int t69.2.2.2.2.2.2.2.1, .int t69.2.2.2.2.2.2.2.2.1, .int t69.2.2.2.2.2.2.2.2.2])), (bG, .inl (dG, 32, .inl t69.2.1)), (bS, .inl (dS, 48, .inl t69.2.2.1)), (bM, .inl (dM, 16384, .inl t69.2.2.2.1))]) ⟨hx, hb, hml, hown, hB⟩ (c_Ref_reached l D aT bG bS bM dG dS dM rg rs rm rl rk rr re rc rd ra rb rn rf rw ((f_Ref_a0 rg ra) + (rg (ix rb))) (4 : Int32) (if p0 ≤ (100 : Int32) then (1 : Int32) else (2 : Int32)) (0 : Int32) hrd) yl_Ref_reached mw_854 hK hN hP hD hS hA [0, 1, 2] [0, 1, 2, 3] [] [0, 1, 2, 3] rfl rfl rfl rfl (by decide +kernel) 0 rfl rfl rfl rfl hl.1 rfl (Nat.le_of_ble_eq_true rfl) ⟨Nat.le_of_ble_eq_true rfl, Nat.le_of_ble_eq_true rfl⟩ d_Ref_extended_174 ⟨Nat.le_of_ble_eq_true rfl, Nat.le_of_ble_eq_true rfl⟩ (fun H locs hP hD hS => ?_)
              refine lv_pop hx hb d_Ref_extended_177 rfl ?_
              refine lv_goto (tgt := 233) hx hb d_Ref_extended_178 (by decide) ?_
              have ef : f_Ref_extended p0 rg rs rm rl rr re rc rd ra rb rn rf rw = (t69.2.1, t69.2.2.1, t69.2.2.2.1, t69.2.2.2.2.1, t69.2.2.2.2.2.1, t69.2.2.2.2.2.2.1, t69.2.2.2.2.2.2.2.1, t69.2.2.2.2.2.2.2.2.1, t69.2.2.2.2.2.2.2.2.2) := by unfold f_Ref_extended; try dsimp only; rw [if_neg h13, if_neg h23, if_neg h30, if_neg h34, if_neg h45, if_pos h61]
              exact k_vret hx hb hr hlocks hK hP hD hS [0, 1, 2, 3] rfl (by rw [ef] <;> rfl) d_Ref_extended_233
            · refine lv_iload_n hx hb d_Ref_extended_120 rfl (lv_at hl 1 rfl) ?_
              refine lv_sipush (v := (215 : Int32)) hx hb d_Ref_extended_121 (by decide) ?_
              refine lv_icmp_ne (tgt := 181) hx hb d_Ref_extended_124 (by decide) (fun (h73 : ¬ p0 = (215 : Int32)) => ?_) (fun (h73 : p0 = (215 : Int32)) => ?_)
              · refine lv_aload_n hx hb d_Ref_extended_181 rfl (lv_at hl 0 rfl) ?_
                refine lv_iload_n hx hb d_Ref_extended_182 rfl (lv_at hl 1 rfl) ?_
                let t74 := (f_Ref_logic p0 rg rs rc rd ra rb)
                refine k_cVi (As := [.int p0]) (rest := []) (wr := []) (wj := [(aT, .inr (11, [.ref bG, .ref bS, .ref bM, .int rl, .int rk, .int rr, .int re, .int rc, .int rd, .int ra, .int rb, .int rn, .int rf, .int rw])), (bG, .inl (dG, 32, .inl t74.2.1)), (bS, .inl (dS, 48, .inl t74.2.2)), (bM, .inl (dM, 16384, .inl rm))]) ⟨hx, hb, hml, hown, hB⟩ (c_Ref_logic l D aT bG bS bM dG dS dM rg rs rm rl rk rr re rc rd ra rb rn rf rw p0 hra hrd hrb) yl_Ref_logic mw_870 hK hN hP hD hS hA [0, 1, 2] [0, 1, 2, 3] [] [0, 1, 2, 3] rfl rfl rfl rfl (by decide +kernel) 0 rfl rfl rfl rfl hl.1 rfl (Nat.le_of_ble_eq_true rfl) ⟨Nat.le_of_ble_eq_true rfl, Nat.le_of_ble_eq_true rfl⟩ d_Ref_extended_183 ⟨Nat.le_of_ble_eq_true rfl, Nat.le_of_ble_eq_true rfl⟩ (fun H locs hP hD hS => ?_)
                refine lv_if_ne (tgt := 233) hx hb d_Ref_extended_186 (by decide) (fun (h78 : ¬ t74.1 = (0 : Int32)) => ?_) (fun (h78 : t74.1 = (0 : Int32)) => ?_)
                · have ef : f_Ref_extended p0 rg rs rm rl rr re rc rd ra rb rn rf rw = (t74.2.1, t74.2.2, rm, rl, rr, re, rn, rf, rw) := by unfold f_Ref_extended; try dsimp only; rw [if_neg h13, if_neg h23, if_neg h30, if_neg h34, if_neg h45, if_neg h61, if_neg h73, if_neg h78]
                  exact k_vret hx hb hr hlocks hK hP hD hS [0, 1, 2, 3] rfl (by rw [ef] <;> rfl) d_Ref_extended_233
                · refine lv_aload_n hx hb d_Ref_extended_189 rfl (lv_at hl 0 rfl) ?_
                  refine lv_iload_n hx hb d_Ref_extended_190 rfl (lv_at hl 1 rfl) ?_
                  let t79 := (f_Ref_shifts p0 t74.2.1 t74.2.2 rc rd ra rb)
                  refine k_cVi (As := [.int p0]) (rest := []) (wr := []) (wj := [(aT, .inr (11, [.ref bG, .ref bS, .ref bM, .int rl, .int rk, .int rr, .int re, .int rc, .int rd, .int ra, .int rb, .int rn, .int rf, .int rw])), (bG, .inl (dG, 32, .inl t79.2.1)), (bS, .inl (dS, 48, .inl t79.2.2)), (bM, .inl (dM, 16384, .inl rm))]) ⟨hx, hb, hml, hown, hB⟩ (c_Ref_shifts l D aT bG bS bM dG dS dM t74.2.1 t74.2.2 rm rl rk rr re rc rd ra rb rn rf rw p0 hra hrd hrb) yl_Ref_shifts mw_874 hK hN hP hD hS hA [0, 1, 2] [0, 1, 2, 3] [] [0, 1, 2, 3] rfl rfl rfl rfl (by decide +kernel) 0 rfl rfl rfl rfl hl.1 rfl (Nat.le_of_ble_eq_true rfl) ⟨Nat.le_of_ble_eq_true rfl, Nat.le_of_ble_eq_true rfl⟩ d_Ref_extended_191 ⟨Nat.le_of_ble_eq_true rfl, Nat.le_of_ble_eq_true rfl⟩ (fun H locs hP hD hS => ?_)
                  refine lv_if_ne (tgt := 233) hx hb d_Ref_extended_194 (by decide) (fun (h83 : ¬ t79.1 = (0 : Int32)) => ?_) (fun (h83 : t79.1 = (0 : Int32)) => ?_)
                  · have ef : f_Ref_extended p0 rg rs rm rl rr re rc rd ra rb rn rf rw = (t79.2.1, t79.2.2, rm, rl, rr, re, rn, rf, rw) := by unfold f_Ref_extended; try dsimp only; rw [if_neg h13, if_neg h23, if_neg h30, if_neg h34, if_neg h45, if_neg h61, if_neg h73, if_pos h78, if_neg h83]
                    exact k_vret hx hb hr hlocks hK hP hD hS [0, 1, 2, 3] rfl (by rw [ef] <;> rfl) d_Ref_extended_233
                  · refine lv_aload_n hx hb d_Ref_extended_197 rfl (lv_at hl 0 rfl) ?_
                    refine lv_iload_n hx hb d_Ref_extended_198 rfl (lv_at hl 1 rfl) ?_
                    let t84 := (f_Ref_arithmetic p0 t79.2.1 t79.2.2 rc rd ra rb)
                    refine k_cVi (As := [.int p0]) (rest := []) (wr := []) (wj := [(aT, .inr (11, [.ref bG, .ref bS, .ref bM, .int rl, .int rk, .int rr, .int re, .int rc, .int rd, .int ra, .int rb, .int rn, .int rf, .int rw])), (bG, .inl (dG, 32, .inl t84.2.1)), (bS, .inl (dS, 48, .inl t84.2.2)), (bM, .inl (dM, 16384, .inl rm))]) ⟨hx, hb, hml, hown, hB⟩ (c_Ref_arithmetic l D aT bG bS bM dG dS dM t79.2.1 t79.2.2 rm rl rk rr re rc rd ra rb rn rf rw p0 hra hrd hrb) yl_Ref_arithmetic mw_881 hK hN hP hD hS hA [0, 1, 2] [0, 1, 2, 3] [] [0, 1, 2, 3] rfl rfl rfl rfl (by decide +kernel) 0 rfl rfl rfl rfl hl.1 rfl (Nat.le_of_ble_eq_true rfl) ⟨Nat.le_of_ble_eq_true rfl, Nat.le_of_ble_eq_true rfl⟩ d_Ref_extended_199 ⟨Nat.le_of_ble_eq_true rfl, Nat.le_of_ble_eq_true rfl⟩ (fun H locs hP hD hS => ?_)
                    refine lv_if_ne (tgt := 233) hx hb d_Ref_extended_202 (by decide) (fun (h88 : ¬ t84.1 = (0 : Int32)) => ?_) (fun (h88 : t84.1 = (0 : Int32)) => ?_)
                    · have ef : f_Ref_extended p0 rg rs rm rl rr re rc rd ra rb rn rf rw = (t84.2.1, t84.2.2, rm, rl, rr, re, rn, rf, rw) := by unfold f_Ref_extended; try dsimp only; rw [if_neg h13, if_neg h23, if_neg h30, if_neg h34, if_neg h45, if_neg h61, if_neg h73, if_pos h78, if_pos h83, if_neg h88]
                      exact k_vret hx hb hr hlocks hK hP hD hS [0, 1, 2, 3] rfl (by rw [ef] <;> rfl) d_Ref_extended_233
                    · refine lv_aload_n hx hb d_Ref_extended_205 rfl (lv_at hl 0 rfl) ?_
                      refine lv_iload_n hx hb d_Ref_extended_206 rfl (lv_at hl 1 rfl) ?_
                      let t89 := (f_Ref_products p0 t84.2.1 t84.2.2 rc rd ra rb)
                      refine k_cVi (As := [.int p0]) (rest := []) (wr := []) (wj := [(aT, .inr (11, [.ref bG, .ref bS, .ref bM, .int rl, .int rk, .int rr, .int re, .int rc, .int rd, .int ra, .int rb, .int rn, .int rf, .int rw])), (bG, .inl (dG, 32, .inl t89.2.1)), (bS, .inl (dS, 48, .inl t89.2.2)), (bM, .inl (dM, 16384, .inl rm))]) ⟨hx, hb, hml, hown, hB⟩ (c_Ref_products l D aT bG bS bM dG dS dM t84.2.1 t84.2.2 rm rl rk rr re rc rd ra rb rn rf rw p0 hra hrd hrb) yl_Ref_products mw_889 hK hN hP hD hS hA [0, 1, 2] [0, 1, 2, 3] [] [0, 1, 2, 3] rfl rfl rfl rfl (by decide +kernel) 0 rfl rfl rfl rfl hl.1 rfl (Nat.le_of_ble_eq_true rfl) ⟨Nat.le_of_ble_eq_true rfl, Nat.le_of_ble_eq_true rfl⟩ d_Ref_extended_207 ⟨Nat.le_of_ble_eq_true rfl, Nat.le_of_ble_eq_true rfl⟩ (fun H locs hP hD hS => ?_)
                      refine lv_if_ne (tgt := 233) hx hb d_Ref_extended_210 (by decide) (fun (h93 : ¬ t89.1 = (0 : Int32)) => ?_) (fun (h93 : t89.1 = (0 : Int32)) => ?_)
                      · have ef : f_Ref_extended p0 rg rs rm rl rr re rc rd ra rb rn rf rw = (t89.2.1, t89.2.2, rm, rl, rr, re, rn, rf, rw) := by unfold f_Ref_extended; try dsimp only; rw [if_neg h13, if_neg h23, if_neg h30, if_neg h34, if_neg h45, if_neg h61, if_neg h73, if_pos h78, if_pos h83, if_pos h88, if_neg h93]
                        exact k_vret hx hb hr hlocks hK hP hD hS [0, 1, 2, 3] rfl (by rw [ef] <;> rfl) d_Ref_extended_233
                      · refine lv_aload_n hx hb d_Ref_extended_213 rfl (lv_at hl 0 rfl) ?_
                        refine lv_iload_n hx hb d_Ref_extended_214 rfl (lv_at hl 1 rfl) ?_
                        let t94 := (f_Ref_system p0 t89.2.1 t89.2.2 rl rc rd ra rn rf)
                        refine k_cVi (As := [.int p0]) (rest := []) (wr := []) (wj := [(aT, .inr (11, [.ref bG, .ref bS, .ref bM, .int t94.2.2.2.1, .int rk, .int rr, .int re, .int rc, .int rd, .int ra, .int rb, .int t94.2.2.2.2.1, .int t94.2.2.2.2.2, .int rw])), (bG, .inl (dG, 32, .inl t94.2.1)), (bS, .inl (dS, 48, .inl t94.2.2.1)), (bM, .inl (dM, 16384, .inl rm))]) ⟨hx, hb, hml, hown, hB⟩ (c_Ref_system l D aT bG bS bM dG dS dM t89.2.1 t89.2.2 rm rl rk rr re rc rd ra rb rn rf rw p0 hra hrd) yl_Ref_system mw_893 hK hN hP hD hS hA [0, 1, 2] [0, 1, 2, 3] [] [0, 1, 2, 3] rfl rfl rfl rfl (by decide +kernel) 0 rfl rfl rfl rfl hl.1 rfl (Nat.le_of_ble_eq_true rfl) ⟨Nat.le_of_ble_eq_true rfl, Nat.le_of_ble_eq_true rfl⟩ d_Ref_extended_215 ⟨Nat.le_of_ble_eq_true rfl, Nat.le_of_ble_eq_true rfl⟩ (fun H locs hP hD hS => ?_)
                        refine lv_if_ne (tgt := 233) hx hb d_Ref_extended_218 (by decide) (fun (h98 : ¬ t94.1 = (0 : Int32)) => ?_) (fun (h98 : t94.1 = (0 : Int32)) => ?_)
                        · have ef : f_Ref_extended p0 rg rs rm rl rr re rc rd ra rb rn rf rw = (t94.2.1, t94.2.2.1, rm, t94.2.2.2.1, rr, re, t94.2.2.2.2.1, t94.2.2.2.2.2, rw) := by unfold f_Ref_extended; try dsimp only; rw [if_neg h13, if_neg h23, if_neg h30, if_neg h34, if_neg h45, if_neg h61, if_neg h73, if_pos h78, if_pos h83, if_pos h88, if_pos h93, if_neg h98]
                          exact k_vret hx hb hr hlocks hK hP hD hS [0, 1, 2, 3] rfl (by rw [ef] <;> rfl) d_Ref_extended_233
                        · refine lv_aload_n hx hb d_Ref_extended_221 rfl (lv_at hl 0 rfl) ?_
                          refine lv_iload_n hx hb d_Ref_extended_222 rfl (lv_at hl 1 rfl) ?_
                          let t99 := (f_Ref_specials p0 t94.2.1 t94.2.2.1 t94.2.2.2.1 rd ra rb t94.2.2.2.2.1 t94.2.2.2.2.2)
                          refine k_cVi (As := [.int p0]) (rest := []) (wr := []) (wj := [(aT, .inr (11, [.ref bG, .ref bS, .ref bM, .int t99.2.2.2.1, .int rk, .int rr, .int re, .int rc, .int rd, .int ra, .int rb, .int t99.2.2.2.2.1, .int t99.2.2.2.2.2, .int rw])), (bG, .inl (dG, 32, .inl t99.2.1)), (bS, .inl (dS, 48, .inl t99.2.2.1)), (bM, .inl (dM, 16384, .inl rm))]) ⟨hx, hb, hml, hown, hB⟩ (c_Ref_specials l D aT bG bS bM dG dS dM t94.2.1 t94.2.2.1 rm t94.2.2.2.1 rk rr re rc rd ra rb t94.2.2.2.2.1 t94.2.2.2.2.2 rw p0 hra hrd hrb) yl_Ref_specials mw_901 hK hN hP hD hS hA [0, 1, 2] [0, 1, 2, 3] [] [0, 1, 2, 3] rfl rfl rfl rfl (by decide +kernel) 0 rfl rfl rfl rfl hl.1 rfl (Nat.le_of_ble_eq_true rfl) ⟨Nat.le_of_ble_eq_true rfl, Nat.le_of_ble_eq_true rfl⟩ d_Ref_extended_223 ⟨Nat.le_of_ble_eq_true rfl, Nat.le_of_ble_eq_true rfl⟩ (fun H locs hP hD hS => ?_)
                          refine lv_if_ne (tgt := 233) hx hb d_Ref_extended_226 (by decide) (fun (h103 : ¬ t99.1 = (0 : Int32)) => ?_) (fun (h103 : t99.1 = (0 : Int32)) => ?_)
                          · have ef : f_Ref_extended p0 rg rs rm rl rr re rc rd ra rb rn rf rw = (t99.2.1, t99.2.2.1, rm, t99.2.2.2.1, rr, re, t99.2.2.2.2.1, t99.2.2.2.2.2, rw) := by unfold f_Ref_extended; try dsimp only; rw [if_neg h13, if_neg h23, if_neg h30, if_neg h34, if_neg h45, if_neg h61, if_neg h73, if_pos h78, if_pos h83, if_pos h88, if_pos h93, if_pos h98, if_neg h103]
                            exact k_vret hx hb hr hlocks hK hP hD hS [0, 1, 2, 3] rfl (by rw [ef] <;> rfl) d_Ref_extended_233
                          · refine lv_aload_n hx hb d_Ref_extended_229 rfl (lv_at hl 0 rfl) ?_
                            let t104 := (f_Ref_unlisted t99.2.2.1)
                            refine k_cVv (As := []) (rest := []) (wr := []) (wj := [(aT, .inr (11, [.ref bG, .ref bS, .ref bM, .int t104.2.1, .int rk, .int rr, .int re, .int rc, .int rd, .int ra, .int rb, .int t104.2.2.1, .int t104.2.2.2, .int rw])), (bG, .inl (dG, 32, .inl t99.2.1)), (bS, .inl (dS, 48, .inl t104.1)), (bM, .inl (dM, 16384, .inl rm))]) ⟨hx, hb, hml, hown, hB⟩ (c_Ref_unlisted l D aT bG bS bM dG dS dM t99.2.1 t99.2.2.1 rm t99.2.2.2.1 rk rr re rc rd ra rb t99.2.2.2.2.1 t99.2.2.2.2.2 rw) yl_Ref_unlisted mw_827 hK hN hP hD hS hA [0, 1, 2] [0, 1, 2, 3] [] [0, 1, 2, 3] rfl rfl rfl rfl (by decide +kernel) 0 rfl rfl rfl rfl hl.1 rfl (Nat.le_of_ble_eq_true rfl) ⟨Nat.le_of_ble_eq_true rfl, Nat.le_of_ble_eq_true rfl⟩ d_Ref_extended_230 ⟨Nat.le_of_ble_eq_true rfl, Nat.le_of_ble_eq_true rfl⟩ (fun H locs hP hD hS => ?_)
                            have ef : f_Ref_extended p0 rg rs rm rl rr re rc rd ra rb rn rf rw = (t99.2.1, t104.1, rm, t104.2.1, rr, re, t104.2.2.1, t104.2.2.2, rw) := by unfold f_Ref_extended; try dsimp only; rw [if_neg h13, if_neg h23, if_neg h30, if_neg h34, if_neg h45, if_neg h61, if_neg h73, if_pos h78, if_pos h83, if_pos h88, if_pos h93, if_pos h98, if_pos h103]
                            exact k_vret hx hb hr hlocks hK hP hD hS [0, 1, 2, 3] rfl (by rw [ef] <;> rfl) d_Ref_extended_233
              · refine lv_aload_n hx hb d_Ref_extended_127 rfl (lv_at hl 0 rfl) ?_
                refine k_cVi (As := []) (rest := []) (wr := []) (wj := [(aT, .inr (11, [.ref bG, .ref bS, .ref bM, .int rl, .int rk, .int rr, .int re, .int rc, .int rd, .int ra, .int rb, .int rn, .int rf, .int rw])), (bG, .inl (dG, 32, .inl rg)), (bS, .inl (dS, 48, .inl rs)), (bM, .inl (dM, 16384, .inl rm))]) ⟨hx, hb, hml, hown, hB⟩ (c_Ref_a0 l D aT bG bS bM dG dS dM rg rs rm rl rk rr re rc rd ra rb rn rf rw hra) yl_Ref_a0 mw_801 hK hN hP hD hS hA [0, 1, 2] [0, 1, 2, 3] [] [0, 1, 2, 3] rfl rfl rfl rfl (by decide +kernel) 0 rfl rfl rfl rfl hl.1 rfl (Nat.le_of_ble_eq_true rfl) ⟨Nat.le_of_ble_eq_true rfl, Nat.le_of_ble_eq_true rfl⟩ d_Ref_extended_128 ⟨Nat.le_of_ble_eq_true rfl, Nat.le_of_ble_eq_true rfl⟩ (fun H locs hP hD hS => ?_)
                refine lv_aload_n hx hb d_Ref_extended_131 rfl (lv_at hl 0 rfl) ?_
                refine va_get (D := D) (ci := 11) (v := .ref bG) (C := "MappedProcessorModel") (T := T_Ref) (N := 14) hx hb hB iw_Ref hown hK hP 0 rfl rfl 0 (by decide) (hB _ mw_643) (fun _ h9 => h9) rfl d_Ref_extended_132 ?_
                refine lv_aload_n hx hb d_Ref_extended_135 rfl (lv_at hl 0 rfl) ?_
                refine va_get (D := D) (ci := 11) (v := .int rb) (C := "MappedProcessorModel") (T := T_Ref) (N := 14) hx hb hB iw_Ref hown hK hP 0 rfl rfl 10 (by decide) (hB _ mw_653) (fun _ h9 => h9) rfl d_Ref_extended_136 ?_
                refine k_iald (j := (ix rb)) hx hb hK hP 1 0 rfl rfl rfl hrb d_Ref_extended_139 ?_
                refine lv_iadd hx hb d_Ref_extended_140 ?_
                refine lv_istore_n (lv' := [(2, .int ((f_Ref_a0 rg ra) + (rg (ix rb)))), (0, .ref aT), (1, .int p0)]) hx hb d_Ref_extended_141 rfl hl (by decide) rfl (fun ls hl => ?_)
                refine lv_aload_n hx hb d_Ref_extended_142 rfl (lv_at hl 1 rfl) ?_
                refine lv_iload_n hx hb d_Ref_extended_143 rfl (lv_at hl 0 rfl) ?_
                refine lv_iload_n hx hb d_Ref_extended_144 rfl (lv_at hl 2 rfl) ?_
                refine lv_bipush (v := (23 : Int32)) hx hb d_Ref_extended_145 (by decide) ?_
                refine lv_icmp_eq (tgt := 157) hx hb d_Ref_extended_147 (by decide) (fun (h105 : p0 = (23 : Int32)) => ?_) (fun (h105 : ¬ p0 = (23 : Int32)) => ?_)
                · exact absurd h105 h34
                refine lv_iload_n hx hb d_Ref_extended_150 rfl (lv_at hl 2 rfl) ?_
                refine lv_sipush (v := (151 : Int32)) hx hb d_Ref_extended_151 (by decide) ?_
                refine lv_icmp_ne (tgt := 161) hx hb d_Ref_extended_154 (by decide) (fun (h106 : ¬ p0 = (151 : Int32)) => ?_) (fun (h106 : p0 = (151 : Int32)) => ?_)
                rotate_left
                · exact absurd h106 h61
                refine lv_iconst (v := (1 : Int32)) hx hb d_Ref_extended_161 (by decide) ?_
                refine lv_iload_n hx hb d_Ref_extended_162 rfl (lv_at hl 2 rfl) ?_
                refine lv_bipush (v := (100 : Int32)) hx hb d_Ref_extended_163 (by decide) ?_
                refine k_join2 (c0 := p0 ≤ (100 : Int32)) (x1 := (1 : Int32)) (x2 := (2 : Int32)) (rest := [.int (1 : Int32), .int ((f_Ref_a0 rg ra) + (rg (ix rb))), .ref aT]) 173 ?_ (fun k108 k109 => ?_)
                rotate_left
                · refine lv_icmp_le (tgt := 172) hx hb d_Ref_extended_165 (by decide) (fun (h107 : p0 ≤ (100 : Int32)) => ?_) (fun (h107 : ¬ p0 ≤ (100 : Int32)) => ?_)
                  · refine lv_iconst (v := (1 : Int32)) hx hb d_Ref_extended_172 (by decide) ?_
                    exact k108 h107
                  · refine lv_iconst (v := (2 : Int32)) hx hb d_Ref_extended_168 (by decide) ?_
                    refine lv_goto (tgt := 173) hx hb d_Ref_extended_169 (by decide) ?_
                    exact k109 h107
                refine lv_iconst (v := (0 : Int32)) hx hb d_Ref_extended_173 (by decide) ?_
                let t112 := (f_Ref_reached ((f_Ref_a0 rg ra) + (rg (ix rb))) (1 : Int32) (if p0 ≤ (100 : Int32) then (1 : Int32) else (2 : Int32)) (0 : Int32) rg rs rm rl rr re rd rn rf rw)
                refine k_cVi (As := [.int ((f_Ref_a0 rg ra) + (rg (ix rb))), .int (1 : Int32), .int (if p0 ≤ (100 : Int32) then (1 : Int32) else (2 : Int32)), .int (0 : Int32)]) (rest := []) (wr := []) (wj := [(aT, .inr (11, [.ref bG, .ref bS, .ref bM, .int t112.2.2.2.2.1, .int rk, .int t112.2.2.2.2.2.1, .int t112.2.2.2.2.2.2.1, .int rc, .int rd, .int ra, .int rb, .int t112.2.2.2.2.2.2.2.1, .int t112.2.2.2.2.2.2.2.2.1, .int t112.2.2.2.2.2.2.2.2.2])), (bG, .inl (dG, 32, .inl t112.2.1)), (bS, .inl (dS, 48, .inl t112.2.2.1)), (bM, .inl (dM, 16384, .inl t112.2.2.2.1))]) ⟨hx, hb, hml, hown, hB⟩ (c_Ref_reached l D aT bG bS bM dG dS dM rg rs rm rl rk rr re rc rd ra rb rn rf rw ((f_Ref_a0 rg ra) + (rg (ix rb))) (1 : Int32) (if p0 ≤ (100 : Int32) then (1 : Int32) else (2 : Int32)) (0 : Int32) hrd) yl_Ref_reached mw_854 hK hN hP hD hS hA [0, 1, 2] [0, 1, 2, 3] [] [0, 1, 2, 3] rfl rfl rfl rfl (by decide +kernel) 0 rfl rfl rfl rfl hl.1 rfl (Nat.le_of_ble_eq_true rfl) ⟨Nat.le_of_ble_eq_true rfl, Nat.le_of_ble_eq_true rfl⟩ d_Ref_extended_174 ⟨Nat.le_of_ble_eq_true rfl, Nat.le_of_ble_eq_true rfl⟩ (fun H locs hP hD hS => ?_)
                refine lv_pop hx hb d_Ref_extended_177 rfl ?_
                refine lv_goto (tgt := 233) hx hb d_Ref_extended_178 (by decide) ?_
                have ef : f_Ref_extended p0 rg rs rm rl rr re rc rd ra rb rn rf rw = (t112.2.1, t112.2.2.1, t112.2.2.2.1, t112.2.2.2.2.1, t112.2.2.2.2.2.1, t112.2.2.2.2.2.2.1, t112.2.2.2.2.2.2.2.1, t112.2.2.2.2.2.2.2.2.1, t112.2.2.2.2.2.2.2.2.2) := by unfold f_Ref_extended; try dsimp only; rw [if_neg h13, if_neg h23, if_neg h30, if_neg h34, if_neg h45, if_neg h61, if_pos h73]
                exact k_vret hx hb hr hlocks hK hP hD hS [0, 1, 2, 3] rfl (by rw [ef] <;> rfl) d_Ref_extended_233
      · refine lv_aload_n hx hb d_Ref_extended_85 rfl (lv_at hl 0 rfl) ?_
        refine lv_aload_n hx hb d_Ref_extended_86 rfl (lv_at hl 0 rfl) ?_
        refine va_get (D := D) (ci := 11) (v := .ref bG) (C := "MappedProcessorModel") (T := T_Ref) (N := 14) hx hb hB iw_Ref hown hK hP 0 rfl rfl 0 (by decide) (hB _ mw_643) (fun _ h9 => h9) rfl d_Ref_extended_87 ?_
        refine lv_aload_n hx hb d_Ref_extended_90 rfl (lv_at hl 0 rfl) ?_
        refine va_get (D := D) (ci := 11) (v := .int rb) (C := "MappedProcessorModel") (T := T_Ref) (N := 14) hx hb hB iw_Ref hown hK hP 0 rfl rfl 10 (by decide) (hB _ mw_653) (fun _ h9 => h9) rfl d_Ref_extended_91 ?_
        refine k_iald (j := (ix rb)) hx hb hK hP 1 0 rfl rfl rfl hrb d_Ref_extended_94 ?_
        let t113 := (f_Ref_trap (rg (ix rb)) rg rs rl rd ra rn rf)
        refine k_cVv (As := [.int (rg (ix rb))]) (rest := []) (wr := []) (wj := [(aT, .inr (11, [.ref bG, .ref bS, .ref bM, .int t113.2.1, .int rk, .int rr, .int re, .int rc, .int rd, .int ra, .int rb, .int t113.2.2.1, .int t113.2.2.2, .int rw])), (bG, .inl (dG, 32, .inl rg)), (bS, .inl (dS, 48, .inl t113.1)), (bM, .inl (dM, 16384, .inl rm))]) ⟨hx, hb, hml, hown, hB⟩ (c_Ref_trap l D aT bG bS bM dG dS dM rg rs rm rl rk rr re rc rd ra rb rn rf rw (rg (ix rb)) hra hrd) yl_Ref_trap mw_765 hK hN hP hD hS hA [0, 1, 2] [0, 1, 2, 3] [] [0, 1, 2, 3] rfl rfl rfl rfl (by decide +kernel) 0 rfl rfl rfl rfl hl.1 rfl (Nat.le_of_ble_eq_true rfl) ⟨Nat.le_of_ble_eq_true rfl, Nat.le_of_ble_eq_true rfl⟩ d_Ref_extended_95 ⟨Nat.le_of_ble_eq_true rfl, Nat.le_of_ble_eq_true rfl⟩ (fun H locs hP hD hS => ?_)
        refine lv_goto (tgt := 233) hx hb d_Ref_extended_98 (by decide) ?_
        have ef : f_Ref_extended p0 rg rs rm rl rr re rc rd ra rb rn rf rw = (rg, t113.1, rm, t113.2.1, rr, re, t113.2.2.1, t113.2.2.2, rw) := by unfold f_Ref_extended; try dsimp only; rw [if_neg h13, if_neg h23, if_pos h30]
        exact k_vret hx hb hr hlocks hK hP hD hS [0, 1, 2, 3] rfl (by rw [ef] <;> rfl) d_Ref_extended_233
    · refine lv_aload_n hx hb d_Ref_extended_43 rfl (lv_at hl 0 rfl) ?_
      refine lv_aload_n hx hb d_Ref_extended_44 rfl (lv_at hl 0 rfl) ?_
      refine va_get (D := D) (ci := 11) (v := .int rd) (C := "MappedProcessorModel") (T := T_Ref) (N := 14) hx hb hB iw_Ref hown hK hP 0 rfl rfl 8 (by decide) (hB _ mw_651) (fun _ h9 => h9) rfl d_Ref_extended_45 ?_
      refine lv_iconst (v := (2 : Int32)) hx hb d_Ref_extended_48 (by decide) ?_
      refine lv_ishr hx hb d_Ref_extended_49 ?_
      refine lv_aload_n hx hb d_Ref_extended_50 rfl (lv_at hl 0 rfl) ?_
      refine va_get (D := D) (ci := 11) (v := .ref bG) (C := "MappedProcessorModel") (T := T_Ref) (N := 14) hx hb hB iw_Ref hown hK hP 0 rfl rfl 0 (by decide) (hB _ mw_643) (fun _ h9 => h9) rfl d_Ref_extended_51 ?_
      refine lv_aload_n hx hb d_Ref_extended_54 rfl (lv_at hl 0 rfl) ?_
      refine va_get (D := D) (ci := 11) (v := .int ra) (C := "MappedProcessorModel") (T := T_Ref) (N := 14) hx hb hB iw_Ref hown hK hP 0 rfl rfl 9 (by decide) (hB _ mw_652) (fun _ h9 => h9) rfl d_Ref_extended_55 ?_
      refine k_iald (j := (ix ra)) hx hb hK hP 1 0 rfl rfl rfl hra d_Ref_extended_58 ?_
      refine k_cSl (As := [.int (rg (ix ra))]) (rest := [.int (shr rd (2 : Int32)), .ref aT]) (wr := [(aT, .inr (11, [.ref bG, .ref bS, .ref bM, .int rl, .int rk, .int rr, .int re, .int rc, .int rd, .int ra, .int rb, .int rn, .int rf, .int rw])), (bG, .inl (dG, 32, .inl rg)), (bS, .inl (dS, 48, .inl rs)), (bM, .inl (dM, 16384, .inl rm))]) (wj := [(aT, .inr (11, [.ref bG, .ref bS, .ref bM, .int rl, .int rk, .int rr, .int re, .int rc, .int rd, .int ra, .int rb, .int rn, .int rf, .int rw])), (bG, .inl (dG, 32, .inl rg)), (bS, .inl (dS, 48, .inl rs)), (bM, .inl (dM, 16384, .inl rm))]) ⟨hx, hb, hml, hown, hB⟩ (c_Ref_unsigned l D (rg (ix ra))) yl_Ref_unsigned mw_769 hK hN hP hD hS hA [] [] [0, 1, 2, 3] [0, 1, 2, 3] rfl rfl rfl rfl (by decide +kernel) rfl hl.1 rfl (Nat.le_of_ble_eq_true rfl) ⟨Nat.le_of_ble_eq_true rfl, Nat.le_of_ble_eq_true rfl⟩ d_Ref_extended_59 ⟨Nat.le_of_ble_eq_true rfl, Nat.le_of_ble_eq_true rfl⟩ (fun H locs hP hD hS => ?_)
      refine lv_aload_n hx hb d_Ref_extended_62 rfl (lv_at hl 0 rfl) ?_
      refine va_get (D := D) (ci := 11) (v := .ref bG) (C := "MappedProcessorModel") (T := T_Ref) (N := 14) hx hb hB iw_Ref hown hK hP 0 rfl rfl 0 (by decide) (hB _ mw_643) (fun _ h9 => h9) rfl d_Ref_extended_63 ?_
      refine lv_aload_n hx hb d_Ref_extended_66 rfl (lv_at hl 0 rfl) ?_
      refine va_get (D := D) (ci := 11) (v := .int rb) (C := "MappedProcessorModel") (T := T_Ref) (N := 14) hx hb hB iw_Ref hown hK hP 0 rfl rfl 10 (by decide) (hB _ mw_653) (fun _ h9 => h9) rfl d_Ref_extended_67 ?_
      refine k_iald (j := (ix rb)) hx hb hK hP 1 0 rfl rfl rfl hrb d_Ref_extended_70 ?_
      refine k_cSl (As := [.int (rg (ix rb))]) (rest := [.long (f_Ref_unsigned (rg (ix ra))), .int (shr rd (2 : Int32)), .ref aT]) (wr := [(aT, .inr (11, [.ref bG, .ref bS, .ref bM, .int rl, .int rk, .int rr, .int re, .int rc, .int rd, .int ra, .int rb, .int rn, .int rf, .int rw])), (bG, .inl (dG, 32, .inl rg)), (bS, .inl (dS, 48, .inl rs)), (bM, .inl (dM, 16384, .inl rm))]) (wj := [(aT, .inr (11, [.ref bG, .ref bS, .ref bM, .int rl, .int rk, .int rr, .int re, .int rc, .int rd, .int ra, .int rb, .int rn, .int rf, .int rw])), (bG, .inl (dG, 32, .inl rg)), (bS, .inl (dS, 48, .inl rs)), (bM, .inl (dM, 16384, .inl rm))]) ⟨hx, hb, hml, hown, hB⟩ (c_Ref_unsigned l D (rg (ix rb))) yl_Ref_unsigned mw_769 hK hN hP hD hS hA [] [] [0, 1, 2, 3] [0, 1, 2, 3] rfl rfl rfl rfl (by decide +kernel) rfl hl.1 rfl (Nat.le_of_ble_eq_true rfl) ⟨Nat.le_of_ble_eq_true rfl, Nat.le_of_ble_eq_true rfl⟩ d_Ref_extended_71 ⟨Nat.le_of_ble_eq_true rfl, Nat.le_of_ble_eq_true rfl⟩ (fun H locs hP hD hS => ?_)
      refine k_cVv (As := [.int (shr rd (2 : Int32)), .long (f_Ref_unsigned (rg (ix ra))), .long (f_Ref_unsigned (rg (ix rb)))]) (rest := []) (wr := []) (wj := [(aT, .inr (11, [.ref bG, .ref bS, .ref bM, .int rl, .int rk, .int rr, .int re, .int rc, .int rd, .int ra, .int rb, .int rn, .int rf, .int rw])), (bG, .inl (dG, 32, .inl rg)), (bS, .inl (dS, 48, .inl (f_Ref_compare (shr rd (2 : Int32)) (f_Ref_unsigned (rg (ix ra))) (f_Ref_unsigned (rg (ix rb))) rs))), (bM, .inl (dM, 16384, .inl rm))]) ⟨hx, hb, hml, hown, hB⟩ (c_Ref_compare l D aT bG bS bM dG dS dM rg rs rm rl rk rr re rc rd ra rb rn rf rw (shr rd (2 : Int32)) (f_Ref_unsigned (rg (ix ra))) (f_Ref_unsigned (rg (ix rb)))) yl_Ref_compare mw_789 hK hN hP hD hS hA [0, 1, 2] [0, 1, 2, 3] [] [0, 1, 2, 3] rfl rfl rfl rfl (by decide +kernel) 0 rfl rfl rfl rfl hl.1 rfl (Nat.le_of_ble_eq_true rfl) ⟨Nat.le_of_ble_eq_true rfl, Nat.le_of_ble_eq_true rfl⟩ d_Ref_extended_74 ⟨Nat.le_of_ble_eq_true rfl, Nat.le_of_ble_eq_true rfl⟩ (fun H locs hP hD hS => ?_)
      refine lv_goto (tgt := 233) hx hb d_Ref_extended_77 (by decide) ?_
      have ef : f_Ref_extended p0 rg rs rm rl rr re rc rd ra rb rn rf rw = (rg, (f_Ref_compare (shr rd (2 : Int32)) (f_Ref_unsigned (rg (ix ra))) (f_Ref_unsigned (rg (ix rb))) rs), rm, rl, rr, re, rn, rf, rw) := by unfold f_Ref_extended; try dsimp only; rw [if_neg h13, if_pos h23]
      exact k_vret hx hb hr hlocks hK hP hD hS [0, 1, 2, 3] rfl (by rw [ef] <;> rfl) d_Ref_extended_233
  · refine lv_aload_n hx hb d_Ref_extended_4 rfl (lv_at hl 0 rfl) ?_
    refine lv_aload_n hx hb d_Ref_extended_5 rfl (lv_at hl 0 rfl) ?_
    refine va_get (D := D) (ci := 11) (v := .int rd) (C := "MappedProcessorModel") (T := T_Ref) (N := 14) hx hb hB iw_Ref hown hK hP 0 rfl rfl 8 (by decide) (hB _ mw_651) (fun _ h9 => h9) rfl d_Ref_extended_6 ?_
    refine lv_iconst (v := (2 : Int32)) hx hb d_Ref_extended_9 (by decide) ?_
    refine lv_ishr hx hb d_Ref_extended_10 ?_
    refine lv_aload_n hx hb d_Ref_extended_11 rfl (lv_at hl 0 rfl) ?_
    refine va_get (D := D) (ci := 11) (v := .ref bG) (C := "MappedProcessorModel") (T := T_Ref) (N := 14) hx hb hB iw_Ref hown hK hP 0 rfl rfl 0 (by decide) (hB _ mw_643) (fun _ h9 => h9) rfl d_Ref_extended_12 ?_
    refine lv_aload_n hx hb d_Ref_extended_15 rfl (lv_at hl 0 rfl) ?_
    refine va_get (D := D) (ci := 11) (v := .int ra) (C := "MappedProcessorModel") (T := T_Ref) (N := 14) hx hb hB iw_Ref hown hK hP 0 rfl rfl 9 (by decide) (hB _ mw_652) (fun _ h9 => h9) rfl d_Ref_extended_16 ?_
    refine k_iald (j := (ix ra)) hx hb hK hP 1 0 rfl rfl rfl hra d_Ref_extended_19 ?_
    refine lv_i2l (v := ((rg (ix ra)).toInt64)) hx hb d_Ref_extended_20 rfl ?_
    refine lv_aload_n hx hb d_Ref_extended_21 rfl (lv_at hl 0 rfl) ?_
    refine va_get (D := D) (ci := 11) (v := .ref bG) (C := "MappedProcessorModel") (T := T_Ref) (N := 14) hx hb hB iw_Ref hown hK hP 0 rfl rfl 0 (by decide) (hB _ mw_643) (fun _ h9 => h9) rfl d_Ref_extended_22 ?_
    refine lv_aload_n hx hb d_Ref_extended_25 rfl (lv_at hl 0 rfl) ?_
    refine va_get (D := D) (ci := 11) (v := .int rb) (C := "MappedProcessorModel") (T := T_Ref) (N := 14) hx hb hB iw_Ref hown hK hP 0 rfl rfl 10 (by decide) (hB _ mw_653) (fun _ h9 => h9) rfl d_Ref_extended_26 ?_
    refine k_iald (j := (ix rb)) hx hb hK hP 1 0 rfl rfl rfl hrb d_Ref_extended_29 ?_
    refine lv_i2l (v := ((rg (ix rb)).toInt64)) hx hb d_Ref_extended_30 rfl ?_
    refine k_cVv (As := [.int (shr rd (2 : Int32)), .long ((rg (ix ra)).toInt64), .long ((rg (ix rb)).toInt64)]) (rest := []) (wr := []) (wj := [(aT, .inr (11, [.ref bG, .ref bS, .ref bM, .int rl, .int rk, .int rr, .int re, .int rc, .int rd, .int ra, .int rb, .int rn, .int rf, .int rw])), (bG, .inl (dG, 32, .inl rg)), (bS, .inl (dS, 48, .inl (f_Ref_compare (shr rd (2 : Int32)) ((rg (ix ra)).toInt64) ((rg (ix rb)).toInt64) rs))), (bM, .inl (dM, 16384, .inl rm))]) ⟨hx, hb, hml, hown, hB⟩ (c_Ref_compare l D aT bG bS bM dG dS dM rg rs rm rl rk rr re rc rd ra rb rn rf rw (shr rd (2 : Int32)) ((rg (ix ra)).toInt64) ((rg (ix rb)).toInt64)) yl_Ref_compare mw_789 hK hN hP hD hS hA [0, 1, 2] [0, 1, 2, 3] [] [0, 1, 2, 3] rfl rfl rfl rfl (by decide +kernel) 0 rfl rfl rfl rfl hl.1 rfl (Nat.le_of_ble_eq_true rfl) ⟨Nat.le_of_ble_eq_true rfl, Nat.le_of_ble_eq_true rfl⟩ d_Ref_extended_31 ⟨Nat.le_of_ble_eq_true rfl, Nat.le_of_ble_eq_true rfl⟩ (fun H locs hP hD hS => ?_)
    refine lv_goto (tgt := 233) hx hb d_Ref_extended_34 (by decide) ?_
    have ef : f_Ref_extended p0 rg rs rm rl rr re rc rd ra rb rn rf rw = (rg, (f_Ref_compare (shr rd (2 : Int32)) ((rg (ix ra)).toInt64) ((rg (ix rb)).toInt64) rs), rm, rl, rr, re, rn, rf, rw) := by unfold f_Ref_extended; try dsimp only; rw [if_pos h13]
    exact k_vret hx hb hr hlocks hK hP hD hS [0, 1, 2, 3] rfl (by rw [ef] <;> rfl) d_Ref_extended_233
/-! MappedProcessorModel.access(II)V -/
theorem d_Ref_access_0 : decode b_Ref_access 0 = .ok (.iload_n 1, 1) := by decide +kernel
theorem d_Ref_access_1 : decode b_Ref_access 1 = .ok (.bipush 40, 2) := by decide +kernel
theorem d_Ref_access_3 : decode b_Ref_access 3 = .ok (.if_icmp .ge 14, 3) := by decide +kernel
theorem d_Ref_access_6 : decode b_Ref_access 6 = .ok (.iload_n 1, 1) := by decide +kernel
theorem d_Ref_access_7 : decode b_Ref_access 7 = .ok (.iconst 1, 1) := by decide +kernel
theorem d_Ref_access_8 : decode b_Ref_access 8 = .ok (.iand, 1) := by decide +kernel
theorem d_Ref_access_9 : decode b_Ref_access 9 = .ok (.iconst 1, 1) := by decide +kernel
theorem d_Ref_access_10 : decode b_Ref_access 10 = .ok (.if_icmp .ne 7, 3) := by decide +kernel
theorem d_Ref_access_13 : decode b_Ref_access 13 = .ok (.iconst 1, 1) := by decide +kernel
theorem d_Ref_access_14 : decode b_Ref_access 14 = .ok (.goto 4, 3) := by decide +kernel
theorem d_Ref_access_17 : decode b_Ref_access 17 = .ok (.iconst 0, 1) := by decide +kernel
theorem d_Ref_access_18 : decode b_Ref_access 18 = .ok (.istore_n 3, 1) := by decide +kernel
theorem d_Ref_access_19 : decode b_Ref_access 19 = .ok (.iload_n 1, 1) := by decide +kernel
theorem d_Ref_access_20 : decode b_Ref_access 20 = .ok (.bipush 36, 2) := by decide +kernel
theorem d_Ref_access_22 : decode b_Ref_access 22 = .ok (.if_icmp .lt 9, 3) := by decide +kernel
theorem d_Ref_access_25 : decode b_Ref_access 25 = .ok (.iload_n 1, 1) := by decide +kernel
theorem d_Ref_access_26 : decode b_Ref_access 26 = .ok (.bipush 39, 2) := by decide +kernel
theorem d_Ref_access_28 : decode b_Ref_access 28 = .ok (.if_icmp .le 9, 3) := by decide +kernel
theorem d_Ref_access_31 : decode b_Ref_access 31 = .ok (.iload_n 1, 1) := by decide +kernel
theorem d_Ref_access_32 : decode b_Ref_access 32 = .ok (.bipush 44, 2) := by decide +kernel
theorem d_Ref_access_34 : decode b_Ref_access 34 = .ok (.if_icmp .ne 7, 3) := by decide +kernel
theorem d_Ref_access_37 : decode b_Ref_access 37 = .ok (.iconst 1, 1) := by decide +kernel
theorem d_Ref_access_38 : decode b_Ref_access 38 = .ok (.goto 4, 3) := by decide +kernel
theorem d_Ref_access_41 : decode b_Ref_access 41 = .ok (.iconst 0, 1) := by decide +kernel
theorem d_Ref_access_42 : decode b_Ref_access 42 = .ok (.istore 4, 2) := by decide +kernel
theorem d_Ref_access_44 : decode b_Ref_access 44 = .ok (.iload_n 3, 1) := by decide +kernel
theorem d_Ref_access_45 : decode b_Ref_access 45 = .ok (.ifCond .eq 31, 3) := by decide +kernel
theorem d_Ref_access_48 : decode b_Ref_access 48 = .ok (.aload_n 0, 1) := by decide +kernel
theorem d_Ref_access_49 : decode b_Ref_access 49 = .ok (.getfield 85, 3) := by decide +kernel
theorem d_Ref_access_52 : decode b_Ref_access 52 = .ok (.ifCond .eq 19, 3) := by decide +kernel
theorem d_Ref_access_55 : decode b_Ref_access 55 = .ok (.iload 4, 2) := by decide +kernel
theorem d_Ref_access_57 : decode b_Ref_access 57 = .ok (.ifCond .ne 19, 3) := by decide +kernel
theorem d_Ref_access_60 : decode b_Ref_access 60 = .ok (.aload_n 0, 1) := by decide +kernel
theorem d_Ref_access_61 : decode b_Ref_access 61 = .ok (.getfield 85, 3) := by decide +kernel
theorem d_Ref_access_64 : decode b_Ref_access 64 = .ok (.aload_n 0, 1) := by decide +kernel
theorem d_Ref_access_65 : decode b_Ref_access 65 = .ok (.getfield 82, 3) := by decide +kernel
theorem d_Ref_access_68 : decode b_Ref_access 68 = .ok (.if_icmp .ne 8, 3) := by decide +kernel
theorem d_Ref_access_71 : decode b_Ref_access 71 = .ok (.aload_n 0, 1) := by decide +kernel
theorem d_Ref_access_72 : decode b_Ref_access 72 = .ok (.invokevirtual 145, 3) := by decide +kernel
theorem d_Ref_access_75 : decode b_Ref_access 75 = .ok (.return_, 1) := by decide +kernel
theorem d_Ref_access_76 : decode b_Ref_access 76 = .ok (.iload_n 1, 1) := by decide +kernel
theorem d_Ref_access_77 : decode b_Ref_access 77 = .ok (.bipush 40, 2) := by decide +kernel
theorem d_Ref_access_79 : decode b_Ref_access 79 = .ok (.if_icmp .lt 7, 3) := by decide +kernel
theorem d_Ref_access_82 : decode b_Ref_access 82 = .ok (.iconst 2, 1) := by decide +kernel
theorem d_Ref_access_83 : decode b_Ref_access 83 = .ok (.goto 14, 3) := by decide +kernel
theorem d_Ref_access_86 : decode b_Ref_access 86 = .ok (.iload_n 1, 1) := by decide +kernel
theorem d_Ref_access_87 : decode b_Ref_access 87 = .ok (.iconst 2, 1) := by decide +kernel
theorem d_Ref_access_88 : decode b_Ref_access 88 = .ok (.iand, 1) := by decide +kernel
theorem d_Ref_access_89 : decode b_Ref_access 89 = .ok (.ifCond .ne 7, 3) := by decide +kernel
theorem d_Ref_access_92 : decode b_Ref_access 92 = .ok (.iconst 4, 1) := by decide +kernel
theorem d_Ref_access_93 : decode b_Ref_access 93 = .ok (.goto 4, 3) := by decide +kernel
theorem d_Ref_access_96 : decode b_Ref_access 96 = .ok (.iconst 1, 1) := by decide +kernel
theorem d_Ref_access_97 : decode b_Ref_access 97 = .ok (.istore 5, 2) := by decide +kernel
theorem d_Ref_access_99 : decode b_Ref_access 99 = .ok (.aload_n 0, 1) := by decide +kernel
theorem d_Ref_access_100 : decode b_Ref_access 100 = .ok (.invokevirtual 153, 3) := by decide +kernel
theorem d_Ref_access_103 : decode b_Ref_access 103 = .ok (.iload_n 2, 1) := by decide +kernel
theorem d_Ref_access_104 : decode b_Ref_access 104 = .ok (.iadd, 1) := by decide +kernel
theorem d_Ref_access_105 : decode b_Ref_access 105 = .ok (.istore 6, 2) := by decide +kernel
theorem d_Ref_access_107 : decode b_Ref_access 107 = .ok (.aload_n 0, 1) := by decide +kernel
theorem d_Ref_access_108 : decode b_Ref_access 108 = .ok (.iload 6, 2) := by decide +kernel
theorem d_Ref_access_110 : decode b_Ref_access 110 = .ok (.iload 5, 2) := by decide +kernel
theorem d_Ref_access_112 : decode b_Ref_access 112 = .ok (.iload 4, 2) := by decide +kernel
theorem d_Ref_access_114 : decode b_Ref_access 114 = .ok (.ifCond .eq 7, 3) := by decide +kernel
theorem d_Ref_access_117 : decode b_Ref_access 117 = .ok (.iconst 2, 1) := by decide +kernel
theorem d_Ref_access_118 : decode b_Ref_access 118 = .ok (.goto 4, 3) := by decide +kernel
theorem d_Ref_access_121 : decode b_Ref_access 121 = .ok (.iconst 1, 1) := by decide +kernel
theorem d_Ref_access_122 : decode b_Ref_access 122 = .ok (.iload_n 1, 1) := by decide +kernel
theorem d_Ref_access_123 : decode b_Ref_access 123 = .ok (.bipush 42, 2) := by decide +kernel
theorem d_Ref_access_125 : decode b_Ref_access 125 = .ok (.if_icmp .ne 7, 3) := by decide +kernel
theorem d_Ref_access_128 : decode b_Ref_access 128 = .ok (.iconst 1, 1) := by decide +kernel
theorem d_Ref_access_129 : decode b_Ref_access 129 = .ok (.goto 4, 3) := by decide +kernel
theorem d_Ref_access_132 : decode b_Ref_access 132 = .ok (.iconst 0, 1) := by decide +kernel
theorem d_Ref_access_133 : decode b_Ref_access 133 = .ok (.invokevirtual 178, 3) := by decide +kernel
theorem d_Ref_access_136 : decode b_Ref_access 136 = .ok (.ifCond .eq 18, 3) := by decide +kernel
theorem d_Ref_access_139 : decode b_Ref_access 139 = .ok (.iload_n 3, 1) := by decide +kernel
theorem d_Ref_access_140 : decode b_Ref_access 140 = .ok (.ifCond .eq 14, 3) := by decide +kernel
theorem d_Ref_access_143 : decode b_Ref_access 143 = .ok (.aload_n 0, 1) := by decide +kernel
theorem d_Ref_access_144 : decode b_Ref_access 144 = .ok (.getfield 7, 3) := by decide +kernel
theorem d_Ref_access_147 : decode b_Ref_access 147 = .ok (.aload_n 0, 1) := by decide +kernel
theorem d_Ref_access_148 : decode b_Ref_access 148 = .ok (.getfield 85, 3) := by decide +kernel
theorem d_Ref_access_151 : decode b_Ref_access 151 = .ok (.iload 6, 2) := by decide +kernel
theorem d_Ref_access_153 : decode b_Ref_access 153 = .ok (.iastore, 1) := by decide +kernel
theorem d_Ref_access_154 : decode b_Ref_access 154 = .ok (.return_, 1) := by decide +kernel
def f_Ref_access (p0 : Int32) (p1 : Int32) (rg : Nat → Int32) (rs : Nat → Int32) (rm : Nat → Int32) (rl : Int32) (rr : Int32) (re : Int32) (rd : Int32) (ra : Int32) (rn : Int32) (rf : Int32) (rw : Int32) : (Nat → Int32) × (Nat → Int32) × (Nat → Int32) × Int32 × Int32 × Int32 × Int32 × Int32 × Int32 :=
  if (if (40 : Int32) ≤ p0 then (0 : Int32) else (if (p0 &&& (1 : Int32)) = (1 : Int32) then (1 : Int32) else (0 : Int32))) = (0 : Int32) then
    let t52 := (f_Ref_reached ((f_Ref_a0 rg ra) + p1) (if p0 < (40 : Int32) then (if (p0 &&& (2 : Int32)) = (0 : Int32) then (4 : Int32) else (1 : Int32)) else (2 : Int32)) (if (if p0 < (36 : Int32) then (if p0 = (44 : Int32) then (1 : Int32) else (0 : Int32)) else (if p0 ≤ (39 : Int32) then (1 : Int32) else (if p0 = (44 : Int32) then (1 : Int32) else (0 : Int32)))) = (0 : Int32) then (1 : Int32) else (2 : Int32)) (if p0 = (42 : Int32) then (1 : Int32) else (0 : Int32)) rg rs rm rl rr re rd rn rf rw)
    if t52.1 = (0 : Int32) then
      (t52.2.1, t52.2.2.1, t52.2.2.2.1, t52.2.2.2.2.1, t52.2.2.2.2.2.1, t52.2.2.2.2.2.2.1, t52.2.2.2.2.2.2.2.1, t52.2.2.2.2.2.2.2.2.1, t52.2.2.2.2.2.2.2.2.2)
    else
      (t52.2.1, t52.2.2.1, t52.2.2.2.1, t52.2.2.2.2.1, t52.2.2.2.2.2.1, t52.2.2.2.2.2.2.1, t52.2.2.2.2.2.2.2.1, t52.2.2.2.2.2.2.2.2.1, t52.2.2.2.2.2.2.2.2.2)
  else
    if ra = (0 : Int32) then
      let t59 := (f_Ref_unlisted rs)
      (rg, t59.1, rm, t59.2.1, rr, re, t59.2.2.1, t59.2.2.2, rw)
    else
      if (if p0 < (36 : Int32) then (if p0 = (44 : Int32) then (1 : Int32) else (0 : Int32)) else (if p0 ≤ (39 : Int32) then (1 : Int32) else (if p0 = (44 : Int32) then (1 : Int32) else (0 : Int32)))) = (0 : Int32) then
        if ra = rd then
          let t106 := (f_Ref_unlisted rs)
          (rg, t106.1, rm, t106.2.1, rr, re, t106.2.2.1, t106.2.2.2, rw)
        else
          let t100 := (f_Ref_reached ((f_Ref_a0 rg ra) + p1) (if p0 < (40 : Int32) then (if (p0 &&& (2 : Int32)) = (0 : Int32) then (4 : Int32) else (1 : Int32)) else (2 : Int32)) (1 : Int32) (if p0 = (42 : Int32) then (1 : Int32) else (0 : Int32)) rg rs rm rl rr re rd rn rf rw)
          if t100.1 = (0 : Int32) then
            (t100.2.1, t100.2.2.1, t100.2.2.2.1, t100.2.2.2.2.1, t100.2.2.2.2.2.1, t100.2.2.2.2.2.2.1, t100.2.2.2.2.2.2.2.1, t100.2.2.2.2.2.2.2.2.1, t100.2.2.2.2.2.2.2.2.2)
          else
            ((upd t100.2.1 (ix ra) ((f_Ref_a0 rg ra) + p1)), t100.2.2.1, t100.2.2.2.1, t100.2.2.2.2.1, t100.2.2.2.2.2.1, t100.2.2.2.2.2.2.1, t100.2.2.2.2.2.2.2.1, t100.2.2.2.2.2.2.2.2.1, t100.2.2.2.2.2.2.2.2.2)
      else
        let t77 := (f_Ref_reached ((f_Ref_a0 rg ra) + p1) (if p0 < (40 : Int32) then (if (p0 &&& (2 : Int32)) = (0 : Int32) then (4 : Int32) else (1 : Int32)) else (2 : Int32)) (2 : Int32) (if p0 = (42 : Int32) then (1 : Int32) else (0 : Int32)) rg rs rm rl rr re rd rn rf rw)
        if t77.1 = (0 : Int32) then
          (t77.2.1, t77.2.2.1, t77.2.2.2.1, t77.2.2.2.2.1, t77.2.2.2.2.2.1, t77.2.2.2.2.2.2.1, t77.2.2.2.2.2.2.2.1, t77.2.2.2.2.2.2.2.2.1, t77.2.2.2.2.2.2.2.2.2)
        else
          ((upd t77.2.1 (ix ra) ((f_Ref_a0 rg ra) + p1)), t77.2.2.1, t77.2.2.2.1, t77.2.2.2.2.1, t77.2.2.2.2.2.1, t77.2.2.2.2.2.2.1, t77.2.2.2.2.2.2.2.1, t77.2.2.2.2.2.2.2.2.1, t77.2.2.2.2.2.2.2.2.2)
def rq_Ref_access (z : (Nat → Int32) × (Nat → Int32) × (Nat → Int32) × Int32 × Int32 × Int32 × Int32 × Int32 × Int32) : Prop := isB z.2.2.2.2.2.2.2.1
set_option maxHeartbeats 4000000 in
set_option maxRecDepth 100000 in
theorem rq0_Ref_access (p0 : Int32) (p1 : Int32) (rg : Nat → Int32) (rs : Nat → Int32) (rm : Nat → Int32) (rl : Int32) (rr : Int32) (re : Int32) (rd : Int32) (ra : Int32) (rn : Int32) (rf : Int32) (rw : Int32) (h : isB rf) : rq_Ref_access (f_Ref_access p0 p1 rg rs rm rl rr re rd ra rn rf rw) := by
  unfold f_Ref_access
  try dsimp only
  repeat' (with_reducible refine pred_ite ?_ ?_)
  all_goals (unfold rq_Ref_access)
  all_goals (try dsimp only)
  all_goals first | with_reducible exact h | with_reducible exact ib0 | with_reducible exact ib1 | with_reducible exact rb_Ref_unlisted _ | with_reducible exact rb_Ref_reached _ _ _ _ _ _ _ _ _ _ _ _ _ _ (by first | with_reducible exact h | with_reducible exact ib0 | with_reducible exact ib1 | with_reducible exact rb_Ref_unlisted _ | with_reducible exact rb_Ref_reached _ _ _ _ _ _ _ _ _ _ _ _ _ _ (by first | with_reducible exact h | with_reducible exact ib0 | with_reducible exact ib1 | with_reducible exact rb_Ref_unlisted _))
theorem rb_Ref_access (p0 : Int32) (p1 : Int32) (rg : Nat → Int32) (rs : Nat → Int32) (rm : Nat → Int32) (rl : Int32) (rr : Int32) (re : Int32) (rd : Int32) (ra : Int32) (rn : Int32) (rf : Int32) (rw : Int32) (h : isB rf) : isB (f_Ref_access p0 p1 rg rs rm rl rr re rd ra rn rf rw).2.2.2.2.2.2.2.1 := rq0_Ref_access p0 p1 rg rs rm rl rr re rd ra rn rf rw h
set_option maxHeartbeats 4000000 in
set_option maxRecDepth 100000 in
theorem c_Ref_access (l : Launch) (D : va_G) (aT bG bS bM : Nat) (dG dS dM : ClassId) (rg : Nat → Int32) (rs : Nat → Int32) (rm : Nat → Int32) (rl : Int32) (rk : Int32) (rr : Int32) (re : Int32) (rc : Int32) (rd : Int32) (ra : Int32) (rb : Int32) (rn : Int32) (rf : Int32) (rw : Int32) (p0 : Int32) (p1 : Int32) (hra : vp_in ra 32) (hrd : vp_in rd 32) : kMv l y_Ref_access b_Ref_access 7 none 5 133 D kCl [(dG, .int), (dS, .int), (dM, .int)] [.ref aT, .int p0, .int p1] [(aT, .inr (11, [.ref bG, .ref bS, .ref bM, .int rl, .int rk, .int rr, .int re, .int rc, .int rd, .int ra, .int rb, .int rn, .int rf, .int rw])), (bG, .inl (dG, 32, .inl rg)), (bS, .inl (dS, 48, .inl rs)), (bM, .inl (dM, 16384, .inl rm))] [(aT, .inr (11, [.ref bG, .ref bS, .ref bM, .int (f_Ref_access p0 p1 rg rs rm rl rr re rd ra rn rf rw).2.2.2.1, .int rk, .int (f_Ref_access p0 p1 rg rs rm rl rr re rd ra rn rf rw).2.2.2.2.1, .int (f_Ref_access p0 p1 rg rs rm rl rr re rd ra rn rf rw).2.2.2.2.2.1, .int rc, .int rd, .int ra, .int rb, .int (f_Ref_access p0 p1 rg rs rm rl rr re rd ra rn rf rw).2.2.2.2.2.2.1, .int (f_Ref_access p0 p1 rg rs rm rl rr re rd ra rn rf rw).2.2.2.2.2.2.2.1, .int (f_Ref_access p0 p1 rg rs rm rl rr re rd ra rn rf rw).2.2.2.2.2.2.2.2])), (bG, .inl (dG, 32, .inl (f_Ref_access p0 p1 rg rs rm rl rr re rd ra rn rf rw).1)), (bS, .inl (dS, 48, .inl (f_Ref_access p0 p1 rg rs rm rl rr re rd ra rn rf rw).2.1)), (bM, .inl (dM, 16384, .inl (f_Ref_access p0 p1 rg rs rm rl rr re rd ra rn rf rw).2.2.1))] := by
  refine k_entry (Qc := fun A => kQv D kCl [(dG, .int), (dS, .int), (dM, .int)] [(aT, .inr (11, [.ref bG, .ref bS, .ref bM, .int (f_Ref_access p0 p1 rg rs rm rl rr re rd ra rn rf rw).2.2.2.1, .int rk, .int (f_Ref_access p0 p1 rg rs rm rl rr re rd ra rn rf rw).2.2.2.2.1, .int (f_Ref_access p0 p1 rg rs rm rl rr re rd ra rn rf rw).2.2.2.2.2.1, .int rc, .int rd, .int ra, .int rb, .int (f_Ref_access p0 p1 rg rs rm rl rr re rd ra rn rf rw).2.2.2.2.2.2.1, .int (f_Ref_access p0 p1 rg rs rm rl rr re rd ra rn rf rw).2.2.2.2.2.2.2.1, .int (f_Ref_access p0 p1 rg rs rm rl rr re rd ra rn rf rw).2.2.2.2.2.2.2.2])), (bG, .inl (dG, 32, .inl (f_Ref_access p0 p1 rg rs rm rl rr re rd ra rn rf rw).1)), (bS, .inl (dS, 48, .inl (f_Ref_access p0 p1 rg rs rm rl rr re rd ra rn rf rw).2.1)), (bM, .inl (dM, 16384, .inl (f_Ref_access p0 p1 rg rs rm rl rr re rd ra rn rf rw).2.2.1))] A) (lv := [(0, .ref aT), (1, .int p0), (2, .int p1)]) (by decide) (Nat.le_of_ble_eq_true rfl) rfl ?_
  intro p e s m below meth c A ls hx hb hr hml hB hown hlocks hin hA hK hN hP hD hS hl
  have hown : s.vm.findClass "MappedProcessorModel" = some m.cls := hown
  refine lv_iload_n hx hb d_Ref_access_0 rfl (lv_at hl 1 rfl) ?_
  refine lv_bipush (v := (40 : Int32)) hx hb d_Ref_access_1 (by decide) ?_
  refine k_join2 (c0 := (40 : Int32) ≤ p0) (x1 := (0 : Int32)) (x2 := (if (p0 &&& (1 : Int32)) = (1 : Int32) then (1 : Int32) else (0 : Int32))) (rest := []) 18 ?_ (fun k2 k3 => ?_)
  rotate_left
  · refine lv_icmp_ge (tgt := 17) hx hb d_Ref_access_3 (by decide) (fun (h1 : (40 : Int32) ≤ p0) => ?_) (fun (h1 : ¬ (40 : Int32) ≤ p0) => ?_)
    · refine lv_iconst (v := (0 : Int32)) hx hb d_Ref_access_17 (by decide) ?_
      exact k2 h1
    · refine lv_iload_n hx hb d_Ref_access_6 rfl (lv_at hl 1 rfl) ?_
      refine lv_iconst (v := (1 : Int32)) hx hb d_Ref_access_7 (by decide) ?_
      refine lv_iand hx hb d_Ref_access_8 ?_
      refine lv_iconst (v := (1 : Int32)) hx hb d_Ref_access_9 (by decide) ?_
      refine k_join2 (c0 := (p0 &&& (1 : Int32)) = (1 : Int32)) (x1 := (1 : Int32)) (x2 := (0 : Int32)) (rest := []) 18 ?_ (fun k5 k6 => ?_)
      rotate_left
      · refine lv_icmp_ne (tgt := 17) hx hb d_Ref_access_10 (by decide) (fun (h4 : ¬ (p0 &&& (1 : Int32)) = (1 : Int32)) => ?_) (fun (h4 : (p0 &&& (1 : Int32)) = (1 : Int32)) => ?_)
        · refine lv_iconst (v := (0 : Int32)) hx hb d_Ref_access_17 (by decide) ?_
          exact k6 h4
        · refine lv_iconst (v := (1 : Int32)) hx hb d_Ref_access_13 (by decide) ?_
          refine lv_goto (tgt := 18) hx hb d_Ref_access_14 (by decide) ?_
          exact k5 h4
      exact k3 h1
  refine lv_istore_n (lv' := [(3, .int (if (40 : Int32) ≤ p0 then (0 : Int32) else (if (p0 &&& (1 : Int32)) = (1 : Int32) then (1 : Int32) else (0 : Int32)))), (0, .ref aT), (1, .int p0), (2, .int p1)]) hx hb d_Ref_access_18 rfl hl (by decide) rfl (fun ls hl => ?_)
  refine lv_iload_n hx hb d_Ref_access_19 rfl (lv_at hl 2 rfl) ?_
  refine lv_bipush (v := (36 : Int32)) hx hb d_Ref_access_20 (by decide) ?_
  refine k_join2 (c0 := p0 < (36 : Int32)) (x1 := (if p0 = (44 : Int32) then (1 : Int32) else (0 : Int32))) (x2 := (if p0 ≤ (39 : Int32) then (1 : Int32) else (if p0 = (44 : Int32) then (1 : Int32) else (0 : Int32)))) (rest := []) 42 ?_ (fun k12 k13 => ?_)
  rotate_left
  · refine lv_icmp_lt (tgt := 31) hx hb d_Ref_access_22 (by decide) (fun (h11 : p0 < (36 : Int32)) => ?_) (fun (h11 : ¬ p0 < (36 : Int32)) => ?_)
    · refine lv_iload_n hx hb d_Ref_access_31 rfl (lv_at hl 2 rfl) ?_
      refine lv_bipush (v := (44 : Int32)) hx hb d_Ref_access_32 (by decide) ?_
      refine k_join2 (c0 := p0 = (44 : Int32)) (x1 := (1 : Int32)) (x2 := (0 : Int32)) (rest := []) 42 ?_ (fun k15 k16 => ?_)
      rotate_left
      · refine lv_icmp_ne (tgt := 41) hx hb d_Ref_access_34 (by decide) (fun (h14 : ¬ p0 = (44 : Int32)) => ?_) (fun (h14 : p0 = (44 : Int32)) => ?_)
        · refine lv_iconst (v := (0 : Int32)) hx hb d_Ref_access_41 (by decide) ?_
          exact k16 h14
        · refine lv_iconst (v := (1 : Int32)) hx hb d_Ref_access_37 (by decide) ?_
          refine lv_goto (tgt := 42) hx hb d_Ref_access_38 (by decide) ?_
          exact k15 h14
      exact k12 h11
    · refine lv_iload_n hx hb d_Ref_access_25 rfl (lv_at hl 2 rfl) ?_
      refine lv_bipush (v := (39 : Int32)) hx hb d_Ref_access_26 (by decide) ?_
      refine k_join2 (c0 := p0 ≤ (39 : Int32)) (x1 := (1 : Int32)) (x2 := (if p0 = (44 : Int32) then (1 : Int32) else (0 : Int32))) (rest := []) 42 ?_ (fun k20 k21 => ?_)
      rotate_left
      · refine lv_icmp_le (tgt := 37) hx hb d_Ref_access_28 (by decide) (fun (h19 : p0 ≤ (39 : Int32)) => ?_) (fun (h19 : ¬ p0 ≤ (39 : Int32)) => ?_)
        · refine lv_iconst (v := (1 : Int32)) hx hb d_Ref_access_37 (by decide) ?_
          refine lv_goto (tgt := 42) hx hb d_Ref_access_38 (by decide) ?_
          exact k20 h19
        · refine lv_iload_n hx hb d_Ref_access_31 rfl (lv_at hl 2 rfl) ?_
          refine lv_bipush (v := (44 : Int32)) hx hb d_Ref_access_32 (by decide) ?_
          refine k_join2 (c0 := p0 = (44 : Int32)) (x1 := (1 : Int32)) (x2 := (0 : Int32)) (rest := []) 42 ?_ (fun k23 k24 => ?_)
          rotate_left
          · refine lv_icmp_ne (tgt := 41) hx hb d_Ref_access_34 (by decide) (fun (h22 : ¬ p0 = (44 : Int32)) => ?_) (fun (h22 : p0 = (44 : Int32)) => ?_)
            · refine lv_iconst (v := (0 : Int32)) hx hb d_Ref_access_41 (by decide) ?_
              exact k24 h22
            · refine lv_iconst (v := (1 : Int32)) hx hb d_Ref_access_37 (by decide) ?_
              refine lv_goto (tgt := 42) hx hb d_Ref_access_38 (by decide) ?_
              exact k23 h22
          exact k21 h19
      exact k13 h11
  refine lv_istore (lv' := [(4, .int (if p0 < (36 : Int32) then (if p0 = (44 : Int32) then (1 : Int32) else (0 : Int32)) else (if p0 ≤ (39 : Int32) then (1 : Int32) else (if p0 = (44 : Int32) then (1 : Int32) else (0 : Int32))))), (3, .int (if (40 : Int32) ≤ p0 then (0 : Int32) else (if (p0 &&& (1 : Int32)) = (1 : Int32) then (1 : Int32) else (0 : Int32)))), (0, .ref aT), (1, .int p0), (2, .int p1)]) hx hb d_Ref_access_42 hl (by decide) rfl (fun ls hl => ?_)
  refine lv_iload_n hx hb d_Ref_access_44 rfl (lv_at hl 1 rfl) ?_
  refine lv_if_eq (tgt := 76) hx hb d_Ref_access_45 (by decide) (fun (h31 : (if (40 : Int32) ≤ p0 then (0 : Int32) else (if (p0 &&& (1 : Int32)) = (1 : Int32) then (1 : Int32) else (0 : Int32))) = (0 : Int32)) => ?_) (fun (h31 : ¬ (if (40 : Int32) ≤ p0 then (0 : Int32) else (if (p0 &&& (1 : Int32)) = (1 : Int32) then (1 : Int32) else (0 : Int32))) = (0 : Int32)) => ?_)
  · refine lv_iload_n hx hb d_Ref_access_76 rfl (lv_at hl 3 rfl) ?_
    refine lv_bipush (v := (40 : Int32)) hx hb d_Ref_access_77 (by decide) ?_
    refine k_join2 (c0 := p0 < (40 : Int32)) (x1 := (if (p0 &&& (2 : Int32)) = (0 : Int32) then (4 : Int32) else (1 : Int32))) (x2 := (2 : Int32)) (rest := []) 97 ?_ (fun k33 k34 => ?_)
    rotate_left
    · refine lv_icmp_lt (tgt := 86) hx hb d_Ref_access_79 (by decide) (fun (h32 : p0 < (40 : Int32)) => ?_) (fun (h32 : ¬ p0 < (40 : Int32)) => ?_)
      · refine lv_iload_n hx hb d_Ref_access_86 rfl (lv_at hl 3 rfl) ?_
        refine lv_iconst (v := (2 : Int32)) hx hb d_Ref_access_87 (by decide) ?_
        refine lv_iand hx hb d_Ref_access_88 ?_
        refine k_join2 (c0 := (p0 &&& (2 : Int32)) = (0 : Int32)) (x1 := (4 : Int32)) (x2 := (1 : Int32)) (rest := []) 97 ?_ (fun k36 k37 => ?_)
        rotate_left
        · refine lv_if_ne (tgt := 96) hx hb d_Ref_access_89 (by decide) (fun (h35 : ¬ (p0 &&& (2 : Int32)) = (0 : Int32)) => ?_) (fun (h35 : (p0 &&& (2 : Int32)) = (0 : Int32)) => ?_)
          · refine lv_iconst (v := (1 : Int32)) hx hb d_Ref_access_96 (by decide) ?_
            exact k37 h35
          · refine lv_iconst (v := (4 : Int32)) hx hb d_Ref_access_92 (by decide) ?_
            refine lv_goto (tgt := 97) hx hb d_Ref_access_93 (by decide) ?_
            exact k36 h35
        exact k33 h32
      · refine lv_iconst (v := (2 : Int32)) hx hb d_Ref_access_82 (by decide) ?_
        refine lv_goto (tgt := 97) hx hb d_Ref_access_83 (by decide) ?_
        exact k34 h32
    refine lv_istore (lv' := [(5, .int (if p0 < (40 : Int32) then (if (p0 &&& (2 : Int32)) = (0 : Int32) then (4 : Int32) else (1 : Int32)) else (2 : Int32))), (4, .int (if p0 < (36 : Int32) then (if p0 = (44 : Int32) then (1 : Int32) else (0 : Int32)) else (if p0 ≤ (39 : Int32) then (1 : Int32) else (if p0 = (44 : Int32) then (1 : Int32) else (0 : Int32))))), (3, .int (if (40 : Int32) ≤ p0 then (0 : Int32) else (if (p0 &&& (1 : Int32)) = (1 : Int32) then (1 : Int32) else (0 : Int32)))), (0, .ref aT), (1, .int p0), (2, .int p1)]) hx hb d_Ref_access_97 hl (by decide) rfl (fun ls hl => ?_)
    refine lv_aload_n hx hb d_Ref_access_99 rfl (lv_at hl 3 rfl) ?_
    refine k_cVi (As := []) (rest := []) (wr := []) (wj := [(aT, .inr (11, [.ref bG, .ref bS, .ref bM, .int rl, .int rk, .int rr, .int re, .int rc, .int rd, .int ra, .int rb, .int rn, .int rf, .int rw])), (bG, .inl (dG, 32, .inl rg)), (bS, .inl (dS, 48, .inl rs)), (bM, .inl (dM, 16384, .inl rm))]) ⟨hx, hb, hml, hown, hB⟩ (c_Ref_a0 l D aT bG bS bM dG dS dM rg rs rm rl rk rr re rc rd ra rb rn rf rw hra) yl_Ref_a0 mw_801 hK hN hP hD hS hA [0, 1, 2] [0, 1, 2, 3] [] [0, 1, 2, 3] rfl rfl rfl rfl (by decide +kernel) 0 rfl rfl rfl rfl hl.1 rfl (Nat.le_of_ble_eq_true rfl) ⟨Nat.le_of_ble_eq_true rfl, Nat.le_of_ble_eq_true rfl⟩ d_Ref_access_100 ⟨Nat.le_of_ble_eq_true rfl, Nat.le_of_ble_eq_true rfl⟩ (fun H locs hP hD hS => ?_)
    refine lv_iload_n hx hb d_Ref_access_103 rfl (lv_at hl 5 rfl) ?_
    refine lv_iadd hx hb d_Ref_access_104 ?_
    refine lv_istore (lv' := [(6, .int ((f_Ref_a0 rg ra) + p1)), (5, .int (if p0 < (40 : Int32) then (if (p0 &&& (2 : Int32)) = (0 : Int32) then (4 : Int32) else (1 : Int32)) else (2 : Int32))), (4, .int (if p0 < (36 : Int32) then (if p0 = (44 : Int32) then (1 : Int32) else (0 : Int32)) else (if p0 ≤ (39 : Int32) then (1 : Int32) else (if p0 = (44 : Int32) then (1 : Int32) else (0 : Int32))))), (3, .int (if (40 : Int32) ≤ p0 then (0 : Int32) else (if (p0 &&& (1 : Int32)) = (1 : Int32) then (1 : Int32) else (0 : Int32)))), (0, .ref aT), (1, .int p0), (2, .int p1)]) hx hb d_Ref_access_105 hl (by decide) rfl (fun ls hl => ?_)
    refine lv_aload_n hx hb d_Ref_access_107 rfl (lv_at hl 4 rfl) ?_
    refine lv_iload hx hb d_Ref_access_108 (lv_at hl 0 rfl) ?_
    refine lv_iload hx hb d_Ref_access_110 (lv_at hl 1 rfl) ?_
    refine lv_iload hx hb d_Ref_access_112 (lv_at hl 2 rfl) ?_
    refine k_join2 (c0 := (if p0 < (36 : Int32) then (if p0 = (44 : Int32) then (1 : Int32) else (0 : Int32)) else (if p0 ≤ (39 : Int32) then (1 : Int32) else (if p0 = (44 : Int32) then (1 : Int32) else (0 : Int32)))) = (0 : Int32)) (x1 := (1 : Int32)) (x2 := (2 : Int32)) (rest := [.int (if p0 < (40 : Int32) then (if (p0 &&& (2 : Int32)) = (0 : Int32) then (4 : Int32) else (1 : Int32)) else (2 : Int32)), .int ((f_Ref_a0 rg ra) + p1), .ref aT]) 122 ?_ (fun k43 k44 => ?_)
    rotate_left
    · refine lv_if_eq (tgt := 121) hx hb d_Ref_access_114 (by decide) (fun (h42 : (if p0 < (36 : Int32) then (if p0 = (44 : Int32) then (1 : Int32) else (0 : Int32)) else (if p0 ≤ (39 : Int32) then (1 : Int32) else (if p0 = (44 : Int32) then (1 : Int32) else (0 : Int32)))) = (0 : Int32)) => ?_) (fun (h42 : ¬ (if p0 < (36 : Int32) then (if p0 = (44 : Int32) then (1 : Int32) else (0 : Int32)) else (if p0 ≤ (39 : Int32) then (1 : Int32) else (if p0 = (44 : Int32) then (1 : Int32) else (0 : Int32)))) = (0 : Int32)) => ?_)
      · refine lv_iconst (v := (1 : Int32)) hx hb d_Ref_access_121 (by decide) ?_
        exact k43 h42
      · refine lv_iconst (v := (2 : Int32)) hx hb d_Ref_access_117 (by decide) ?_
        refine lv_goto (tgt := 122) hx hb d_Ref_access_118 (by decide) ?_
        exact k44 h42
    refine lv_iload_n hx hb d_Ref_access_122 rfl (lv_at hl 5 rfl) ?_
    refine lv_bipush (v := (42 : Int32)) hx hb d_Ref_access_123 (by decide) ?_
    refine k_join2 (c0 := p0 = (42 : Int32)) (x1 := (1 : Int32)) (x2 := (0 : Int32)) (rest := [.int (if (if p0 < (36 : Int32) then (if p0 = (44 : Int32) then (1 : Int32) else (0 : Int32)) else (if p0 ≤ (39 : Int32) then (1 : Int32) else (if p0 = (44 : Int32) then (1 : Int32) else (0 : Int32)))) = (0 : Int32) then (1 : Int32) else (2 : Int32)), .int (if p0 < (40 : Int32) then (if (p0 &&& (2 : Int32)) = (0 : Int32) then (4 : Int32) else (1 : Int32)) else (2 : Int32)), .int ((f_Ref_a0 rg ra) + p1), .ref aT]) 133 ?_ (fun k48 k49 => ?_)
    rotate_left
    · refine lv_icmp_ne (tgt := 132) hx hb d_Ref_access_125 (by decide) (fun (h47 : ¬ p0 = (42 : Int32)) => ?_) (fun (h47 : p0 = (42 : Int32)) => ?_)
      · refine lv_iconst (v := (0 : Int32)) hx hb d_Ref_access_132 (by decide) ?_
        exact k49 h47
      · refine lv_iconst (v := (1 : Int32)) hx hb d_Ref_access_128 (by decide) ?_
        refine lv_goto (tgt := 133) hx hb d_Ref_access_129 (by decide) ?_
        exact k48 h47
    let t52 := (f_Ref_reached ((f_Ref_a0 rg ra) + p1) (if p0 < (40 : Int32) then (if (p0 &&& (2 : Int32)) = (0 : Int32) then (4 : Int32) else (1 : Int32)) else (2 : Int32)) (if (if p0 < (36 : Int32) then (if p0 = (44 : Int32) then (1 : Int32) else (0 : Int32)) else (if p0 ≤ (39 : Int32) then (1 : Int32) else (if p0 = (44 : Int32) then (1 : Int32) else (0 : Int32)))) = (0 : Int32) then (1 : Int32) else (2 : Int32)) (if p0 = (42 : Int32) then (1 : Int32) else (0 : Int32)) rg rs rm rl rr re rd rn rf rw)
    refine k_cVi (As := [.int ((f_Ref_a0 rg ra) + p1), .int (if p0 < (40 : Int32) then (if (p0 &&& (2 : Int32)) = (0 : Int32) then (4 : Int32) else (1 : Int32)) else (2 : Int32)), .int (if (if p0 < (36 : Int32) then (if p0 = (44 : Int32) then (1 : Int32) else (0 : Int32)) else (if p0 ≤ (39 : Int32) then (1 : Int32) else (if p0 = (44 : Int32) then (1 : Int32) else (0 : Int32)))) = (0 : Int32) then (1 : Int32) else (2 : Int32)), .int (if p0 = (42 : Int32) then (1 : Int32) else (0 : Int32))]) (rest := []) (wr := []) (wj := [(aT, .inr (11, [.ref bG, .ref bS, .ref bM, .int t52.2.2.2.2.1, .int rk, .int t52.2.2.2.2.2.1, .int t52.2.2.2.2.2.2.1, .int rc, .int rd, .int ra, .int rb, .int t52.2.2.2.2.2.2.2.1, .int t52.2.2.2.2.2.2.2.2.1, .int t52.2.2.2.2.2.2.2.2.2])), (bG, .inl (dG, 32, .inl t52.2.1)), (bS, .inl (dS, 48, .inl t52.2.2.1)), (bM, .inl (dM, 16384, .inl t52.2.2.2.1))]) ⟨hx, hb, hml, hown, hB⟩ (c_Ref_reached l D aT bG bS bM dG dS dM rg rs rm rl rk rr re rc rd ra rb rn rf rw ((f_Ref_a0 rg ra) + p1) (if p0 < (40 : Int32) then (if (p0 &&& (2 : Int32)) = (0 : Int32) then (4 : Int32) else (1 : Int32)) else (2 : Int32)) (if (if p0 < (36 : Int32) then (if p0 = (44 : Int32) then (1 : Int32) else (0 : Int32)) else (if p0 ≤ (39 : Int32) then (1 : Int32) else (if p0 = (44 : Int32) then (1 : Int32) else (0 : Int32)))) = (0 : Int32) then (1 : Int32) else (2 : Int32)) (if p0 = (42 : Int32) then (1 : Int32) else (0 : Int32)) hrd) yl_Ref_reached mw_854 hK hN hP hD hS hA [0, 1, 2] [0, 1, 2, 3] [] [0, 1, 2, 3] rfl rfl rfl rfl (by decide +kernel) 0 rfl rfl rfl rfl hl.1 rfl (Nat.le_of_ble_eq_true rfl) ⟨Nat.le_of_ble_eq_true rfl, Nat.le_of_ble_eq_true rfl⟩ d_Ref_access_133 ⟨Nat.le_of_ble_eq_true rfl, Nat.le_of_ble_eq_true rfl⟩ (fun H locs hP hD hS => ?_)
    refine lv_if_eq (tgt := 154) hx hb d_Ref_access_136 (by decide) (fun (h56 : t52.1 = (0 : Int32)) => ?_) (fun (h56 : ¬ t52.1 = (0 : Int32)) => ?_)
    · have ef : f_Ref_access p0 p1 rg rs rm rl rr re rd ra rn rf rw = (t52.2.1, t52.2.2.1, t52.2.2.2.1, t52.2.2.2.2.1, t52.2.2.2.2.2.1, t52.2.2.2.2.2.2.1, t52.2.2.2.2.2.2.2.1, t52.2.2.2.2.2.2.2.2.1, t52.2.2.2.2.2.2.2.2.2) := by unfold f_Ref_access; try dsimp only; rw [if_pos h31, if_pos h56]
      exact k_vret hx hb hr hlocks hK hP hD hS [0, 1, 2, 3] rfl (by rw [ef] <;> rfl) d_Ref_access_154
    · refine lv_iload_n hx hb d_Ref_access_139 rfl (lv_at hl 3 rfl) ?_
      refine lv_if_eq (tgt := 154) hx hb d_Ref_access_140 (by decide) (fun (h57 : (if (40 : Int32) ≤ p0 then (0 : Int32) else (if (p0 &&& (1 : Int32)) = (1 : Int32) then (1 : Int32) else (0 : Int32))) = (0 : Int32)) => ?_) (fun (h57 : ¬ (if (40 : Int32) ≤ p0 then (0 : Int32) else (if (p0 &&& (1 : Int32)) = (1 : Int32) then (1 : Int32) else (0 : Int32))) = (0 : Int32)) => ?_)
      rotate_left
      · exact absurd h31 h57
      have ef : f_Ref_access p0 p1 rg rs rm rl rr re rd ra rn rf rw = (t52.2.1, t52.2.2.1, t52.2.2.2.1, t52.2.2.2.2.1, t52.2.2.2.2.2.1, t52.2.2.2.2.2.2.1, t52.2.2.2.2.2.2.2.1, t52.2.2.2.2.2.2.2.2.1, t52.2.2.2.2.2.2.2.2.2) := by unfold f_Ref_access; try dsimp only; rw [if_pos h31, if_neg h56]
      exact k_vret hx hb hr hlocks hK hP hD hS [0, 1, 2, 3] rfl (by rw [ef] <;> rfl) d_Ref_access_154
  · refine lv_aload_n hx hb d_Ref_access_48 rfl (lv_at hl 2 rfl) ?_
    refine va_get (D := D) (ci := 11) (v := .int ra) (C := "MappedProcessorModel") (T := T_Ref) (N := 14) hx hb hB iw_Ref hown hK hP 0 rfl rfl 9 (by decide) (hB _ mw_652) (fun _ h9 => h9) rfl d_Ref_access_49 ?_
    refine lv_if_eq (tgt := 71) hx hb d_Ref_access_52 (by decide) (fun (h58 : ra = (0 : Int32)) => ?_) (fun (h58 : ¬ ra = (0 : Int32)) => ?_)
    · refine lv_aload_n hx hb d_Ref_access_71 rfl (lv_at hl 2 rfl) ?_
      let t59 := (f_Ref_unlisted rs)
      refine k_cVv (As := []) (rest := []) (wr := []) (wj := [(aT, .inr (11, [.ref bG, .ref bS, .ref bM, .int t59.2.1, .int rk, .int rr, .int re, .int rc, .int rd, .int ra, .int rb, .int t59.2.2.1, .int t59.2.2.2, .int rw])), (bG, .inl (dG, 32, .inl rg)), (bS, .inl (dS, 48, .inl t59.1)), (bM, .inl (dM, 16384, .inl rm))]) ⟨hx, hb, hml, hown, hB⟩ (c_Ref_unlisted l D aT bG bS bM dG dS dM rg rs rm rl rk rr re rc rd ra rb rn rf rw) yl_Ref_unlisted mw_827 hK hN hP hD hS hA [0, 1, 2] [0, 1, 2, 3] [] [0, 1, 2, 3] rfl rfl rfl rfl (by decide +kernel) 0 rfl rfl rfl rfl hl.1 rfl (Nat.le_of_ble_eq_true rfl) ⟨Nat.le_of_ble_eq_true rfl, Nat.le_of_ble_eq_true rfl⟩ d_Ref_access_72 ⟨Nat.le_of_ble_eq_true rfl, Nat.le_of_ble_eq_true rfl⟩ (fun H locs hP hD hS => ?_)
      have ef : f_Ref_access p0 p1 rg rs rm rl rr re rd ra rn rf rw = (rg, t59.1, rm, t59.2.1, rr, re, t59.2.2.1, t59.2.2.2, rw) := by unfold f_Ref_access; try dsimp only; rw [if_neg h31, if_pos h58]
      exact k_vret hx hb hr hlocks hK hP hD hS [0, 1, 2, 3] rfl (by rw [ef] <;> rfl) d_Ref_access_75
    · refine lv_iload hx hb d_Ref_access_55 (lv_at hl 0 rfl) ?_
      refine lv_if_ne (tgt := 76) hx hb d_Ref_access_57 (by decide) (fun (h60 : ¬ (if p0 < (36 : Int32) then (if p0 = (44 : Int32) then (1 : Int32) else (0 : Int32)) else (if p0 ≤ (39 : Int32) then (1 : Int32) else (if p0 = (44 : Int32) then (1 : Int32) else (0 : Int32)))) = (0 : Int32)) => ?_) (fun (h60 : (if p0 < (36 : Int32) then (if p0 = (44 : Int32) then (1 : Int32) else (0 : Int32)) else (if p0 ≤ (39 : Int32) then (1 : Int32) else (if p0 = (44 : Int32) then (1 : Int32) else (0 : Int32)))) = (0 : Int32)) => ?_)
      · refine lv_iload_n hx hb d_Ref_access_76 rfl (lv_at hl 3 rfl) ?_
        refine lv_bipush (v := (40 : Int32)) hx hb d_Ref_access_77 (by decide) ?_
        refine k_join2 (c0 := p0 < (40 : Int32)) (x1 := (if (p0 &&& (2 : Int32)) = (0 : Int32) then (4 : Int32) else (1 : Int32))) (x2 := (2 : Int32)) (rest := []) 97 ?_ (fun k62 k63 => ?_)
        rotate_left
        · refine lv_icmp_lt (tgt := 86) hx hb d_Ref_access_79 (by decide) (fun (h61 : p0 < (40 : Int32)) => ?_) (fun (h61 : ¬ p0 < (40 : Int32)) => ?_)
          · refine lv_iload_n hx hb d_Ref_access_86 rfl (lv_at hl 3 rfl) ?_
            refine lv_iconst (v := (2 : Int32)) hx hb d_Ref_access_87 (by decide) ?_
            refine lv_iand hx hb d_Ref_access_88 ?_
            refine k_join2 (c0 := (p0 &&& (2 : Int32)) = (0 : Int32)) (x1 := (4 : Int32)) (x2 := (1 : Int32)) (rest := []) 97 ?_ (fun k65 k66 => ?_)
            rotate_left
            · refine lv_if_ne (tgt := 96) hx hb d_Ref_access_89 (by decide) (fun (h64 : ¬ (p0 &&& (2 : Int32)) = (0 : Int32)) => ?_) (fun (h64 : (p0 &&& (2 : Int32)) = (0 : Int32)) => ?_)
              · refine lv_iconst (v := (1 : Int32)) hx hb d_Ref_access_96 (by decide) ?_
                exact k66 h64
              · refine lv_iconst (v := (4 : Int32)) hx hb d_Ref_access_92 (by decide) ?_
                refine lv_goto (tgt := 97) hx hb d_Ref_access_93 (by decide) ?_
                exact k65 h64
            exact k62 h61
          · refine lv_iconst (v := (2 : Int32)) hx hb d_Ref_access_82 (by decide) ?_
            refine lv_goto (tgt := 97) hx hb d_Ref_access_83 (by decide) ?_
            exact k63 h61
        refine lv_istore (lv' := [(5, .int (if p0 < (40 : Int32) then (if (p0 &&& (2 : Int32)) = (0 : Int32) then (4 : Int32) else (1 : Int32)) else (2 : Int32))), (4, .int (if p0 < (36 : Int32) then (if p0 = (44 : Int32) then (1 : Int32) else (0 : Int32)) else (if p0 ≤ (39 : Int32) then (1 : Int32) else (if p0 = (44 : Int32) then (1 : Int32) else (0 : Int32))))), (3, .int (if (40 : Int32) ≤ p0 then (0 : Int32) else (if (p0 &&& (1 : Int32)) = (1 : Int32) then (1 : Int32) else (0 : Int32)))), (0, .ref aT), (1, .int p0), (2, .int p1)]) hx hb d_Ref_access_97 hl (by decide) rfl (fun ls hl => ?_)
        refine lv_aload_n hx hb d_Ref_access_99 rfl (lv_at hl 3 rfl) ?_
        refine k_cVi (As := []) (rest := []) (wr := []) (wj := [(aT, .inr (11, [.ref bG, .ref bS, .ref bM, .int rl, .int rk, .int rr, .int re, .int rc, .int rd, .int ra, .int rb, .int rn, .int rf, .int rw])), (bG, .inl (dG, 32, .inl rg)), (bS, .inl (dS, 48, .inl rs)), (bM, .inl (dM, 16384, .inl rm))]) ⟨hx, hb, hml, hown, hB⟩ (c_Ref_a0 l D aT bG bS bM dG dS dM rg rs rm rl rk rr re rc rd ra rb rn rf rw hra) yl_Ref_a0 mw_801 hK hN hP hD hS hA [0, 1, 2] [0, 1, 2, 3] [] [0, 1, 2, 3] rfl rfl rfl rfl (by decide +kernel) 0 rfl rfl rfl rfl hl.1 rfl (Nat.le_of_ble_eq_true rfl) ⟨Nat.le_of_ble_eq_true rfl, Nat.le_of_ble_eq_true rfl⟩ d_Ref_access_100 ⟨Nat.le_of_ble_eq_true rfl, Nat.le_of_ble_eq_true rfl⟩ (fun H locs hP hD hS => ?_)
        refine lv_iload_n hx hb d_Ref_access_103 rfl (lv_at hl 5 rfl) ?_
        refine lv_iadd hx hb d_Ref_access_104 ?_
        refine lv_istore (lv' := [(6, .int ((f_Ref_a0 rg ra) + p1)), (5, .int (if p0 < (40 : Int32) then (if (p0 &&& (2 : Int32)) = (0 : Int32) then (4 : Int32) else (1 : Int32)) else (2 : Int32))), (4, .int (if p0 < (36 : Int32) then (if p0 = (44 : Int32) then (1 : Int32) else (0 : Int32)) else (if p0 ≤ (39 : Int32) then (1 : Int32) else (if p0 = (44 : Int32) then (1 : Int32) else (0 : Int32))))), (3, .int (if (40 : Int32) ≤ p0 then (0 : Int32) else (if (p0 &&& (1 : Int32)) = (1 : Int32) then (1 : Int32) else (0 : Int32)))), (0, .ref aT), (1, .int p0), (2, .int p1)]) hx hb d_Ref_access_105 hl (by decide) rfl (fun ls hl => ?_)
        refine lv_aload_n hx hb d_Ref_access_107 rfl (lv_at hl 4 rfl) ?_
        refine lv_iload hx hb d_Ref_access_108 (lv_at hl 0 rfl) ?_
        refine lv_iload hx hb d_Ref_access_110 (lv_at hl 1 rfl) ?_
        refine lv_iload hx hb d_Ref_access_112 (lv_at hl 2 rfl) ?_
        refine lv_if_eq (tgt := 121) hx hb d_Ref_access_114 (by decide) (fun (h71 : (if p0 < (36 : Int32) then (if p0 = (44 : Int32) then (1 : Int32) else (0 : Int32)) else (if p0 ≤ (39 : Int32) then (1 : Int32) else (if p0 = (44 : Int32) then (1 : Int32) else (0 : Int32)))) = (0 : Int32)) => ?_) (fun (h71 : ¬ (if p0 < (36 : Int32) then (if p0 = (44 : Int32) then (1 : Int32) else (0 : Int32)) else (if p0 ≤ (39 : Int32) then (1 : Int32) else (if p0 = (44 : Int32) then (1 : Int32) else (0 : Int32)))) = (0 : Int32)) => ?_)
        · exact absurd h71 h60
        refine lv_iconst (v := (2 : Int32)) hx hb d_Ref_access_117 (by decide) ?_
        refine lv_goto (tgt := 122) hx hb d_Ref_access_118 (by decide) ?_
        refine lv_iload_n hx hb d_Ref_access_122 rfl (lv_at hl 5 rfl) ?_
        refine lv_bipush (v := (42 : Int32)) hx hb d_Ref_access_123 (by decide) ?_
        refine k_join2 (c0 := p0 = (42 : Int32)) (x1 := (1 : Int32)) (x2 := (0 : Int32)) (rest := [.int (2 : Int32), .int (if p0 < (40 : Int32) then (if (p0 &&& (2 : Int32)) = (0 : Int32) then (4 : Int32) else (1 : Int32)) else (2 : Int32)), .int ((f_Ref_a0 rg ra) + p1), .ref aT]) 133 ?_ (fun k73 k74 => ?_)
        rotate_left
        · refine lv_icmp_ne (tgt := 132) hx hb d_Ref_access_125 (by decide) (fun (h72 : ¬ p0 = (42 : Int32)) => ?_) (fun (h72 : p0 = (42 : Int32)) => ?_)
          · refine lv_iconst (v := (0 : Int32)) hx hb d_Ref_access_132 (by decide) ?_
            exact k74 h72
          · refine lv_iconst (v := (1 : Int32)) hx hb d_Ref_access_128 (by decide) ?_
            refine lv_goto (tgt := 133) hx hb d_Ref_access_129 (by decide) ?_
            exact k73 h72
        let t77 := (f_Ref_reached ((f_Ref_a0 rg ra) + p1) (if p0 < (40 : Int32) then (if (p0 &&& (2 : Int32)) = (0 : Int32) then (4 : Int32) else (1 : Int32)) else (2 : Int32)) (2 : Int32) (if p0 = (42 : Int32) then (1 : Int32) else (0 : Int32)) rg rs rm rl rr re rd rn rf rw)
        refine k_cVi (As := [.int ((f_Ref_a0 rg ra) + p1), .int (if p0 < (40 : Int32) then (if (p0 &&& (2 : Int32)) = (0 : Int32) then (4 : Int32) else (1 : Int32)) else (2 : Int32)), .int (2 : Int32), .int (if p0 = (42 : Int32) then (1 : Int32) else (0 : Int32))]) (rest := []) (wr := []) (wj := [(aT, .inr (11, [.ref bG, .ref bS, .ref bM, .int t77.2.2.2.2.1, .int rk, .int t77.2.2.2.2.2.1, .int t77.2.2.2.2.2.2.1, .int rc, .int rd, .int ra, .int rb, .int t77.2.2.2.2.2.2.2.1, .int t77.2.2.2.2.2.2.2.2.1, .int t77.2.2.2.2.2.2.2.2.2])), (bG, .inl (dG, 32, .inl t77.2.1)), (bS, .inl (dS, 48, .inl t77.2.2.1)), (bM, .inl (dM, 16384, .inl t77.2.2.2.1))]) ⟨hx, hb, hml, hown, hB⟩ (c_Ref_reached l D aT bG bS bM dG dS dM rg rs rm rl rk rr re rc rd ra rb rn rf rw ((f_Ref_a0 rg ra) + p1) (if p0 < (40 : Int32) then (if (p0 &&& (2 : Int32)) = (0 : Int32) then (4 : Int32) else (1 : Int32)) else (2 : Int32)) (2 : Int32) (if p0 = (42 : Int32) then (1 : Int32) else (0 : Int32)) hrd) yl_Ref_reached mw_854 hK hN hP hD hS hA [0, 1, 2] [0, 1, 2, 3] [] [0, 1, 2, 3] rfl rfl rfl rfl (by decide +kernel) 0 rfl rfl rfl rfl hl.1 rfl (Nat.le_of_ble_eq_true rfl) ⟨Nat.le_of_ble_eq_true rfl, Nat.le_of_ble_eq_true rfl⟩ d_Ref_access_133 ⟨Nat.le_of_ble_eq_true rfl, Nat.le_of_ble_eq_true rfl⟩ (fun H locs hP hD hS => ?_)
        refine lv_if_eq (tgt := 154) hx hb d_Ref_access_136 (by decide) (fun (h81 : t77.1 = (0 : Int32)) => ?_) (fun (h81 : ¬ t77.1 = (0 : Int32)) => ?_)
        · have ef : f_Ref_access p0 p1 rg rs rm rl rr re rd ra rn rf rw = (t77.2.1, t77.2.2.1, t77.2.2.2.1, t77.2.2.2.2.1, t77.2.2.2.2.2.1, t77.2.2.2.2.2.2.1, t77.2.2.2.2.2.2.2.1, t77.2.2.2.2.2.2.2.2.1, t77.2.2.2.2.2.2.2.2.2) := by unfold f_Ref_access; try dsimp only; rw [if_neg h31, if_neg h58, if_neg h60, if_pos h81]
          exact k_vret hx hb hr hlocks hK hP hD hS [0, 1, 2, 3] rfl (by rw [ef] <;> rfl) d_Ref_access_154
        · refine lv_iload_n hx hb d_Ref_access_139 rfl (lv_at hl 3 rfl) ?_
          refine lv_if_eq (tgt := 154) hx hb d_Ref_access_140 (by decide) (fun (h82 : (if (40 : Int32) ≤ p0 then (0 : Int32) else (if (p0 &&& (1 : Int32)) = (1 : Int32) then (1 : Int32) else (0 : Int32))) = (0 : Int32)) => ?_) (fun (h82 : ¬ (if (40 : Int32) ≤ p0 then (0 : Int32) else (if (p0 &&& (1 : Int32)) = (1 : Int32) then (1 : Int32) else (0 : Int32))) = (0 : Int32)) => ?_)
          · exact absurd h82 h31
          refine lv_aload_n hx hb d_Ref_access_143 rfl (lv_at hl 4 rfl) ?_
          refine va_get (D := D) (ci := 11) (v := .ref bG) (C := "MappedProcessorModel") (T := T_Ref) (N := 14) hx hb hB iw_Ref hown hK hP 0 rfl rfl 0 (by decide) (hB _ mw_643) (fun _ h9 => h9) rfl d_Ref_access_144 ?_
          refine lv_aload_n hx hb d_Ref_access_147 rfl (lv_at hl 4 rfl) ?_
          refine va_get (D := D) (ci := 11) (v := .int ra) (C := "MappedProcessorModel") (T := T_Ref) (N := 14) hx hb hB iw_Ref hown hK hP 0 rfl rfl 9 (by decide) (hB _ mw_652) (fun _ h9 => h9) rfl d_Ref_access_148 ?_
          refine lv_iload hx hb d_Ref_access_151 (lv_at hl 0 rfl) ?_
          refine k_iast (j := (ix ra)) hx hb hK hP hD hS 1 0 rfl rfl rfl hra d_Ref_access_153 (fun H locs hP hD hS => ?_)
          have hP : va_P D kCl [(aT, .inr (11, [.ref bG, .ref bS, .ref bM, .int t77.2.2.2.2.1, .int rk, .int t77.2.2.2.2.2.1, .int t77.2.2.2.2.2.2.1, .int rc, .int rd, .int ra, .int rb, .int t77.2.2.2.2.2.2.2.1, .int t77.2.2.2.2.2.2.2.2.1, .int t77.2.2.2.2.2.2.2.2.2])), (bG, .inl (dG, 32, .inl (upd t77.2.1 (ix ra) ((f_Ref_a0 rg ra) + p1)))), (bS, .inl (dS, 48, .inl t77.2.2.1)), (bM, .inl (dM, 16384, .inl t77.2.2.2.1))] H := hP
          have hD : va_D A [(aT, .inr (11, [.ref bG, .ref bS, .ref bM, .int t77.2.2.2.2.1, .int rk, .int t77.2.2.2.2.2.1, .int t77.2.2.2.2.2.2.1, .int rc, .int rd, .int ra, .int rb, .int t77.2.2.2.2.2.2.2.1, .int t77.2.2.2.2.2.2.2.2.1, .int t77.2.2.2.2.2.2.2.2.2])), (bG, .inl (dG, 32, .inl (upd t77.2.1 (ix ra) ((f_Ref_a0 rg ra) + p1)))), (bS, .inl (dS, 48, .inl t77.2.2.1)), (bM, .inl (dM, 16384, .inl t77.2.2.2.1))] := hD
          have ef : f_Ref_access p0 p1 rg rs rm rl rr re rd ra rn rf rw = ((upd t77.2.1 (ix ra) ((f_Ref_a0 rg ra) + p1)), t77.2.2.1, t77.2.2.2.1, t77.2.2.2.2.1, t77.2.2.2.2.2.1, t77.2.2.2.2.2.2.1, t77.2.2.2.2.2.2.2.1, t77.2.2.2.2.2.2.2.2.1, t77.2.2.2.2.2.2.2.2.2) := by unfold f_Ref_access; try dsimp only; rw [if_neg h31, if_neg h58, if_neg h60, if_neg h81]
          exact k_vret hx hb hr hlocks hK hP hD hS [0, 1, 2, 3] rfl (by rw [ef] <;> rfl) d_Ref_access_154
      · refine lv_aload_n hx hb d_Ref_access_60 rfl (lv_at hl 2 rfl) ?_
        refine va_get (D := D) (ci := 11) (v := .int ra) (C := "MappedProcessorModel") (T := T_Ref) (N := 14) hx hb hB iw_Ref hown hK hP 0 rfl rfl 9 (by decide) (hB _ mw_652) (fun _ h9 => h9) rfl d_Ref_access_61 ?_
        refine lv_aload_n hx hb d_Ref_access_64 rfl (lv_at hl 2 rfl) ?_
        refine va_get (D := D) (ci := 11) (v := .int rd) (C := "MappedProcessorModel") (T := T_Ref) (N := 14) hx hb hB iw_Ref hown hK hP 0 rfl rfl 8 (by decide) (hB _ mw_651) (fun _ h9 => h9) rfl d_Ref_access_65 ?_
        refine lv_icmp_ne (tgt := 76) hx hb d_Ref_access_68 (by decide) (fun (h83 : ¬ ra = rd) => ?_) (fun (h83 : ra = rd) => ?_)
        · refine lv_iload_n hx hb d_Ref_access_76 rfl (lv_at hl 3 rfl) ?_
          refine lv_bipush (v := (40 : Int32)) hx hb d_Ref_access_77 (by decide) ?_
          refine k_join2 (c0 := p0 < (40 : Int32)) (x1 := (if (p0 &&& (2 : Int32)) = (0 : Int32) then (4 : Int32) else (1 : Int32))) (x2 := (2 : Int32)) (rest := []) 97 ?_ (fun k85 k86 => ?_)
          rotate_left
          · refine lv_icmp_lt (tgt := 86) hx hb d_Ref_access_79 (by decide) (fun (h84 : p0 < (40 : Int32)) => ?_) (fun (h84 : ¬ p0 < (40 : Int32)) => ?_)
            · refine lv_iload_n hx hb d_Ref_access_86 rfl (lv_at hl 3 rfl) ?_
              refine lv_iconst (v := (2 : Int32)) hx hb d_Ref_access_87 (by decide) ?_
              refine lv_iand hx hb d_Ref_access_88 ?_
              refine k_join2 (c0 := (p0 &&& (2 : Int32)) = (0 : Int32)) (x1 := (4 : Int32)) (x2 := (1 : Int32)) (rest := []) 97 ?_ (fun k88 k89 => ?_)
              rotate_left
              · refine lv_if_ne (tgt := 96) hx hb d_Ref_access_89 (by decide) (fun (h87 : ¬ (p0 &&& (2 : Int32)) = (0 : Int32)) => ?_) (fun (h87 : (p0 &&& (2 : Int32)) = (0 : Int32)) => ?_)
                · refine lv_iconst (v := (1 : Int32)) hx hb d_Ref_access_96 (by decide) ?_
                  exact k89 h87
                · refine lv_iconst (v := (4 : Int32)) hx hb d_Ref_access_92 (by decide) ?_
                  refine lv_goto (tgt := 97) hx hb d_Ref_access_93 (by decide) ?_
                  exact k88 h87
              exact k85 h84
            · refine lv_iconst (v := (2 : Int32)) hx hb d_Ref_access_82 (by decide) ?_
              refine lv_goto (tgt := 97) hx hb d_Ref_access_83 (by decide) ?_
              exact k86 h84
          refine lv_istore (lv' := [(5, .int (if p0 < (40 : Int32) then (if (p0 &&& (2 : Int32)) = (0 : Int32) then (4 : Int32) else (1 : Int32)) else (2 : Int32))), (4, .int (if p0 < (36 : Int32) then (if p0 = (44 : Int32) then (1 : Int32) else (0 : Int32)) else (if p0 ≤ (39 : Int32) then (1 : Int32) else (if p0 = (44 : Int32) then (1 : Int32) else (0 : Int32))))), (3, .int (if (40 : Int32) ≤ p0 then (0 : Int32) else (if (p0 &&& (1 : Int32)) = (1 : Int32) then (1 : Int32) else (0 : Int32)))), (0, .ref aT), (1, .int p0), (2, .int p1)]) hx hb d_Ref_access_97 hl (by decide) rfl (fun ls hl => ?_)
          refine lv_aload_n hx hb d_Ref_access_99 rfl (lv_at hl 3 rfl) ?_
          refine k_cVi (As := []) (rest := []) (wr := []) (wj := [(aT, .inr (11, [.ref bG, .ref bS, .ref bM, .int rl, .int rk, .int rr, .int re, .int rc, .int rd, .int ra, .int rb, .int rn, .int rf, .int rw])), (bG, .inl (dG, 32, .inl rg)), (bS, .inl (dS, 48, .inl rs)), (bM, .inl (dM, 16384, .inl rm))]) ⟨hx, hb, hml, hown, hB⟩ (c_Ref_a0 l D aT bG bS bM dG dS dM rg rs rm rl rk rr re rc rd ra rb rn rf rw hra) yl_Ref_a0 mw_801 hK hN hP hD hS hA [0, 1, 2] [0, 1, 2, 3] [] [0, 1, 2, 3] rfl rfl rfl rfl (by decide +kernel) 0 rfl rfl rfl rfl hl.1 rfl (Nat.le_of_ble_eq_true rfl) ⟨Nat.le_of_ble_eq_true rfl, Nat.le_of_ble_eq_true rfl⟩ d_Ref_access_100 ⟨Nat.le_of_ble_eq_true rfl, Nat.le_of_ble_eq_true rfl⟩ (fun H locs hP hD hS => ?_)
          refine lv_iload_n hx hb d_Ref_access_103 rfl (lv_at hl 5 rfl) ?_
          refine lv_iadd hx hb d_Ref_access_104 ?_
          refine lv_istore (lv' := [(6, .int ((f_Ref_a0 rg ra) + p1)), (5, .int (if p0 < (40 : Int32) then (if (p0 &&& (2 : Int32)) = (0 : Int32) then (4 : Int32) else (1 : Int32)) else (2 : Int32))), (4, .int (if p0 < (36 : Int32) then (if p0 = (44 : Int32) then (1 : Int32) else (0 : Int32)) else (if p0 ≤ (39 : Int32) then (1 : Int32) else (if p0 = (44 : Int32) then (1 : Int32) else (0 : Int32))))), (3, .int (if (40 : Int32) ≤ p0 then (0 : Int32) else (if (p0 &&& (1 : Int32)) = (1 : Int32) then (1 : Int32) else (0 : Int32)))), (0, .ref aT), (1, .int p0), (2, .int p1)]) hx hb d_Ref_access_105 hl (by decide) rfl (fun ls hl => ?_)
          refine lv_aload_n hx hb d_Ref_access_107 rfl (lv_at hl 4 rfl) ?_
          refine lv_iload hx hb d_Ref_access_108 (lv_at hl 0 rfl) ?_
          refine lv_iload hx hb d_Ref_access_110 (lv_at hl 1 rfl) ?_
          refine lv_iload hx hb d_Ref_access_112 (lv_at hl 2 rfl) ?_
          refine lv_if_eq (tgt := 121) hx hb d_Ref_access_114 (by decide) (fun (h94 : (if p0 < (36 : Int32) then (if p0 = (44 : Int32) then (1 : Int32) else (0 : Int32)) else (if p0 ≤ (39 : Int32) then (1 : Int32) else (if p0 = (44 : Int32) then (1 : Int32) else (0 : Int32)))) = (0 : Int32)) => ?_) (fun (h94 : ¬ (if p0 < (36 : Int32) then (if p0 = (44 : Int32) then (1 : Int32) else (0 : Int32)) else (if p0 ≤ (39 : Int32) then (1 : Int32) else (if p0 = (44 : Int32) then (1 : Int32) else (0 : Int32)))) = (0 : Int32)) => ?_)
          rotate_left
          · exact absurd h60 h94
          refine lv_iconst (v := (1 : Int32)) hx hb d_Ref_access_121 (by decide) ?_
          refine lv_iload_n hx hb d_Ref_access_122 rfl (lv_at hl 5 rfl) ?_
          refine lv_bipush (v := (42 : Int32)) hx hb d_Ref_access_123 (by decide) ?_
          refine k_join2 (c0 := p0 = (42 : Int32)) (x1 := (1 : Int32)) (x2 := (0 : Int32)) (rest := [.int (1 : Int32), .int (if p0 < (40 : Int32) then (if (p0 &&& (2 : Int32)) = (0 : Int32) then (4 : Int32) else (1 : Int32)) else (2 : Int32)), .int ((f_Ref_a0 rg ra) + p1), .ref aT]) 133 ?_ (fun k96 k97 => ?_)
          rotate_left
          · refine lv_icmp_ne (tgt := 132) hx hb d_Ref_access_125 (by decide) (fun (h95 : ¬ p0 = (42 : Int32)) => ?_) (fun (h95 : p0 = (42 : Int32)) => ?_)
            · refine lv_iconst (v := (0 : Int32)) hx hb d_Ref_access_132 (by decide) ?_
              exact k97 h95
            · refine lv_iconst (v := (1 : Int32)) hx hb d_Ref_access_128 (by decide) ?_
              refine lv_goto (tgt := 133) hx hb d_Ref_access_129 (by decide) ?_
              exact k96 h95
          let t100 := (f_Ref_reached ((f_Ref_a0 rg ra) + p1) (if p0 < (40 : Int32) then (if (p0 &&& (2 : Int32)) = (0 : Int32) then (4 : Int32) else (1 : Int32)) else (2 : Int32)) (1 : Int32) (if p0 = (42 : Int32) then (1 : Int32) else (0 : Int32)) rg rs rm rl rr re rd rn rf rw)
          refine k_cVi (As := [.int ((f_Ref_a0 rg ra) + p1), .int (if p0 < (40 : Int32) then (if (p0 &&& (2 : Int32)) = (0 : Int32) then (4 : Int32) else (1 : Int32)) else (2 : Int32)), .int (1 : Int32), .int (if p0 = (42 : Int32) then (1 : Int32) else (0 : Int32))]) (rest := []) (wr := []) (wj := [(aT, .inr (11, [.ref bG, .ref bS, .ref bM, .int t100.2.2.2.2.1, .int rk, .int t100.2.2.2.2.2.1, .int t100.2.2.2.2.2.2.1, .int rc, .int rd, .int ra, .int rb, .int t100.2.2.2.2.2.2.2.1, .int t100.2.2.2.2.2.2.2.2.1, .int t100.2.2.2.2.2.2.2.2.2])), (bG, .inl (dG, 32, .inl t100.2.1)), (bS, .inl (dS, 48, .inl t100.2.2.1)), (bM, .inl (dM, 16384, .inl t100.2.2.2.1))]) ⟨hx, hb, hml, hown, hB⟩ (c_Ref_reached l D aT bG bS bM dG dS dM rg rs rm rl rk rr re rc rd ra rb rn rf rw ((f_Ref_a0 rg ra) + p1) (if p0 < (40 : Int32) then (if (p0 &&& (2 : Int32)) = (0 : Int32) then (4 : Int32) else (1 : Int32)) else (2 : Int32)) (1 : Int32) (if p0 = (42 : Int32) then (1 : Int32) else (0 : Int32)) hrd) yl_Ref_reached mw_854 hK hN hP hD hS hA [0, 1, 2] [0, 1, 2, 3] [] [0, 1, 2, 3] rfl rfl rfl rfl (by decide +kernel) 0 rfl rfl rfl rfl hl.1 rfl (Nat.le_of_ble_eq_true rfl) ⟨Nat.le_of_ble_eq_true rfl, Nat.le_of_ble_eq_true rfl⟩ d_Ref_access_133 ⟨Nat.le_of_ble_eq_true rfl, Nat.le_of_ble_eq_true rfl⟩ (fun H locs hP hD hS => ?_)
          refine lv_if_eq (tgt := 154) hx hb d_Ref_access_136 (by decide) (fun (h104 : t100.1 = (0 : Int32)) => ?_) (fun (h104 : ¬ t100.1 = (0 : Int32)) => ?_)
          · have ef : f_Ref_access p0 p1 rg rs rm rl rr re rd ra rn rf rw = (t100.2.1, t100.2.2.1, t100.2.2.2.1, t100.2.2.2.2.1, t100.2.2.2.2.2.1, t100.2.2.2.2.2.2.1, t100.2.2.2.2.2.2.2.1, t100.2.2.2.2.2.2.2.2.1, t100.2.2.2.2.2.2.2.2.2) := by unfold f_Ref_access; try dsimp only; rw [if_neg h31, if_neg h58, if_pos h60, if_neg h83, if_pos h104]
            exact k_vret hx hb hr hlocks hK hP hD hS [0, 1, 2, 3] rfl (by rw [ef] <;> rfl) d_Ref_access_154
          · refine lv_iload_n hx hb d_Ref_access_139 rfl (lv_at hl 3 rfl) ?_
            refine lv_if_eq (tgt := 154) hx hb d_Ref_access_140 (by decide) (fun (h105 : (if (40 : Int32) ≤ p0 then (0 : Int32) else (if (p0 &&& (1 : Int32)) = (1 : Int32) then (1 : Int32) else (0 : Int32))) = (0 : Int32)) => ?_) (fun (h105 : ¬ (if (40 : Int32) ≤ p0 then (0 : Int32) else (if (p0 &&& (1 : Int32)) = (1 : Int32) then (1 : Int32) else (0 : Int32))) = (0 : Int32)) => ?_)
            · exact absurd h105 h31
            refine lv_aload_n hx hb d_Ref_access_143 rfl (lv_at hl 4 rfl) ?_
            refine va_get (D := D) (ci := 11) (v := .ref bG) (C := "MappedProcessorModel") (T := T_Ref) (N := 14) hx hb hB iw_Ref hown hK hP 0 rfl rfl 0 (by decide) (hB _ mw_643) (fun _ h9 => h9) rfl d_Ref_access_144 ?_
            refine lv_aload_n hx hb d_Ref_access_147 rfl (lv_at hl 4 rfl) ?_
            refine va_get (D := D) (ci := 11) (v := .int ra) (C := "MappedProcessorModel") (T := T_Ref) (N := 14) hx hb hB iw_Ref hown hK hP 0 rfl rfl 9 (by decide) (hB _ mw_652) (fun _ h9 => h9) rfl d_Ref_access_148 ?_
            refine lv_iload hx hb d_Ref_access_151 (lv_at hl 0 rfl) ?_
            refine k_iast (j := (ix ra)) hx hb hK hP hD hS 1 0 rfl rfl rfl hra d_Ref_access_153 (fun H locs hP hD hS => ?_)
            have hP : va_P D kCl [(aT, .inr (11, [.ref bG, .ref bS, .ref bM, .int t100.2.2.2.2.1, .int rk, .int t100.2.2.2.2.2.1, .int t100.2.2.2.2.2.2.1, .int rc, .int rd, .int ra, .int rb, .int t100.2.2.2.2.2.2.2.1, .int t100.2.2.2.2.2.2.2.2.1, .int t100.2.2.2.2.2.2.2.2.2])), (bG, .inl (dG, 32, .inl (upd t100.2.1 (ix ra) ((f_Ref_a0 rg ra) + p1)))), (bS, .inl (dS, 48, .inl t100.2.2.1)), (bM, .inl (dM, 16384, .inl t100.2.2.2.1))] H := hP
            have hD : va_D A [(aT, .inr (11, [.ref bG, .ref bS, .ref bM, .int t100.2.2.2.2.1, .int rk, .int t100.2.2.2.2.2.1, .int t100.2.2.2.2.2.2.1, .int rc, .int rd, .int ra, .int rb, .int t100.2.2.2.2.2.2.2.1, .int t100.2.2.2.2.2.2.2.2.1, .int t100.2.2.2.2.2.2.2.2.2])), (bG, .inl (dG, 32, .inl (upd t100.2.1 (ix ra) ((f_Ref_a0 rg ra) + p1)))), (bS, .inl (dS, 48, .inl t100.2.2.1)), (bM, .inl (dM, 16384, .inl t100.2.2.2.1))] := hD
            have ef : f_Ref_access p0 p1 rg rs rm rl rr re rd ra rn rf rw = ((upd t100.2.1 (ix ra) ((f_Ref_a0 rg ra) + p1)), t100.2.2.1, t100.2.2.2.1, t100.2.2.2.2.1, t100.2.2.2.2.2.1, t100.2.2.2.2.2.2.1, t100.2.2.2.2.2.2.2.1, t100.2.2.2.2.2.2.2.2.1, t100.2.2.2.2.2.2.2.2.2) := by unfold f_Ref_access; try dsimp only; rw [if_neg h31, if_neg h58, if_pos h60, if_neg h83, if_neg h104]
            exact k_vret hx hb hr hlocks hK hP hD hS [0, 1, 2, 3] rfl (by rw [ef] <;> rfl) d_Ref_access_154
        · refine lv_aload_n hx hb d_Ref_access_71 rfl (lv_at hl 2 rfl) ?_
          let t106 := (f_Ref_unlisted rs)
          refine k_cVv (As := []) (rest := []) (wr := []) (wj := [(aT, .inr (11, [.ref bG, .ref bS, .ref bM, .int t106.2.1, .int rk, .int rr, .int re, .int rc, .int rd, .int ra, .int rb, .int t106.2.2.1, .int t106.2.2.2, .int rw])), (bG, .inl (dG, 32, .inl rg)), (bS, .inl (dS, 48, .inl t106.1)), (bM, .inl (dM, 16384, .inl rm))]) ⟨hx, hb, hml, hown, hB⟩ (c_Ref_unlisted l D aT bG bS bM dG dS dM rg rs rm rl rk rr re rc rd ra rb rn rf rw) yl_Ref_unlisted mw_827 hK hN hP hD hS hA [0, 1, 2] [0, 1, 2, 3] [] [0, 1, 2, 3] rfl rfl rfl rfl (by decide +kernel) 0 rfl rfl rfl rfl hl.1 rfl (Nat.le_of_ble_eq_true rfl) ⟨Nat.le_of_ble_eq_true rfl, Nat.le_of_ble_eq_true rfl⟩ d_Ref_access_72 ⟨Nat.le_of_ble_eq_true rfl, Nat.le_of_ble_eq_true rfl⟩ (fun H locs hP hD hS => ?_)
          have ef : f_Ref_access p0 p1 rg rs rm rl rr re rd ra rn rf rw = (rg, t106.1, rm, t106.2.1, rr, re, t106.2.2.1, t106.2.2.2, rw) := by unfold f_Ref_access; try dsimp only; rw [if_neg h31, if_neg h58, if_pos h60, if_pos h83]
          exact k_vret hx hb hr hlocks hK hP hD hS [0, 1, 2, 3] rfl (by rw [ef] <;> rfl) d_Ref_access_75
