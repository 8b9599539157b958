/-! java/lang/Integer.compare(II)I -/
theorem d_Int_compare_0 : decode b_Int_compare 0 = .ok (.iload_n 0, 1) := by decide +kernel
theorem d_Int_compare_1 : decode b_Int_compare 1 = .ok (.iload_n 1, 1) := by decide +kernel
theorem d_Int_compare_2 : decode b_Int_compare 2 = .ok (.if_icmp .ge 7, 3) := by decide +kernel
theorem d_Int_compare_5 : decode b_Int_compare 5 = .ok (.iconst (-1), 1) := by decide +kernel
theorem d_Int_compare_6 : decode b_Int_compare 6 = .ok (.goto 13, 3) := by decide +kernel
theorem d_Int_compare_9 : decode b_Int_compare 9 = .ok (.iload_n 0, 1) := by decide +kernel
theorem d_Int_compare_10 : decode b_Int_compare 10 = .ok (.iload_n 1, 1) := by decide +kernel
theorem d_Int_compare_11 : decode b_Int_compare 11 = .ok (.if_icmp .ne 7, 3) := by decide +kernel
theorem d_Int_compare_14 : decode b_Int_compare 14 = .ok (.iconst 0, 1) := by decide +kernel
theorem d_Int_compare_15 : decode b_Int_compare 15 = .ok (.goto 4, 3) := by decide +kernel
theorem d_Int_compare_18 : decode b_Int_compare 18 = .ok (.iconst 1, 1) := by decide +kernel
theorem d_Int_compare_19 : decode b_Int_compare 19 = .ok (.ireturn, 1) := by decide +kernel
def f_Int_compare (p0 : Int32) (p1 : Int32) : Int32 :=
  (if p1 ≤ p0 then (if p0 = p1 then (0 : Int32) else (1 : Int32)) else (-1 : Int32))
set_option maxHeartbeats 4000000 in
set_option maxRecDepth 100000 in
theorem c_Int_compare (l : Launch) (D : va_G) (p0 : Int32) (p1 : Int32) : kMi l y_Int_compare b_Int_compare 2 (some .int) 0 0 D kCl [] [.int p0, .int p1] [] (f_Int_compare p0 p1) [] := by
  refine k_entry (Qc := fun A => kQi D kCl [] (f_Int_compare p0 p1) [] A) (lv := [(0, .int p0), (1, .int p1)]) (by decide) (Nat.le_of_ble_eq_true rfl) rfl ?_
  intro p e s m below meth c A ls hx hb hr hml hB hown hlocks hin hA hK hN hP hD hS hl
  have hown : s.vm.findClass "java/lang/Integer" = some m.cls := hown
  refine lv_iload_n hx hb d_Int_compare_0 rfl (lv_at hl 0 rfl) ?_
  refine lv_iload_n hx hb d_Int_compare_1 rfl (lv_at hl 1 rfl) ?_
  refine k_join2 (c0 := p1 ≤ p0) (x1 := (if p0 = p1 then (0 : Int32) else (1 : Int32))) (x2 := (-1 : Int32)) (rest := []) 19 ?_ (fun k2 k3 => ?_)
  rotate_left
  · refine lv_icmp_ge (tgt := 9) hx hb d_Int_compare_2 (by decide) (fun (h1 : p1 ≤ p0) => ?_) (fun (h1 : ¬ p1 ≤ p0) => ?_)
    · refine lv_iload_n hx hb d_Int_compare_9 rfl (lv_at hl 0 rfl) ?_
      refine lv_iload_n hx hb d_Int_compare_10 rfl (lv_at hl 1 rfl) ?_
      refine k_join2 (c0 := p0 = p1) (x1 := (0 : Int32)) (x2 := (1 : Int32)) (rest := []) 19 ?_ (fun k5 k6 => ?_)
      rotate_left
      · refine lv_icmp_ne (tgt := 18) hx hb d_Int_compare_11 (by decide) (fun (h4 : ¬ p0 = p1) => ?_) (fun (h4 : p0 = p1) => ?_)
        · refine lv_iconst (v := (1 : Int32)) hx hb d_Int_compare_18 (by decide) ?_
          exact k6 h4
        · refine lv_iconst (v := (0 : Int32)) hx hb d_Int_compare_14 (by decide) ?_
          refine lv_goto (tgt := 19) hx hb d_Int_compare_15 (by decide) ?_
          exact k5 h4
      exact k2 h1
    · refine lv_iconst (v := (-1 : Int32)) hx hb d_Int_compare_5 (by decide) ?_
      refine lv_goto (tgt := 19) hx hb d_Int_compare_6 (by decide) ?_
      exact k3 h1
  have ef : f_Int_compare p0 p1 = (if p1 ≤ p0 then (if p0 = p1 then (0 : Int32) else (1 : Int32)) else (-1 : Int32)) := rfl
  exact k_iret hx hb hr hlocks hK hP hD hS [] rfl rfl (by rw [ef] <;> rfl) d_Int_compare_19
/-! java/lang/Integer.compareUnsigned(II)I -/
theorem d_Int_compareUnsigned_0 : decode b_Int_compareUnsigned 0 = .ok (.iload_n 0, 1) := by decide +kernel
theorem d_Int_compareUnsigned_1 : decode b_Int_compareUnsigned 1 = .ok (.ldc 127, 2) := by decide +kernel
theorem d_Int_compareUnsigned_3 : decode b_Int_compareUnsigned 3 = .ok (.iadd, 1) := by decide +kernel
theorem d_Int_compareUnsigned_4 : decode b_Int_compareUnsigned 4 = .ok (.iload_n 1, 1) := by decide +kernel
theorem d_Int_compareUnsigned_5 : decode b_Int_compareUnsigned 5 = .ok (.ldc 127, 2) := by decide +kernel
theorem d_Int_compareUnsigned_7 : decode b_Int_compareUnsigned 7 = .ok (.iadd, 1) := by decide +kernel
theorem d_Int_compareUnsigned_8 : decode b_Int_compareUnsigned 8 = .ok (.invokestatic 259, 3) := by decide +kernel
theorem d_Int_compareUnsigned_11 : decode b_Int_compareUnsigned 11 = .ok (.ireturn, 1) := by decide +kernel
def f_Int_compareUnsigned (p0 : Int32) (p1 : Int32) : Int32 :=
  (f_Int_compare (p0 + (-2147483648 : Int32)) (p1 + (-2147483648 : Int32)))
set_option maxHeartbeats 4000000 in
set_option maxRecDepth 100000 in
theorem c_Int_compareUnsigned (l : Launch) (D : va_G) (p0 : Int32) (p1 : Int32) : kMi l y_Int_compareUnsigned b_Int_compareUnsigned 2 (some .int) 1 21 D kCl [] [.int p0, .int p1] [] (f_Int_compareUnsigned p0 p1) [] := by
  refine k_entry (Qc := fun A => kQi D kCl [] (f_Int_compareUnsigned p0 p1) [] A) (lv := [(0, .int p0), (1, .int p1)]) (by decide) (Nat.le_of_ble_eq_true rfl) rfl ?_
  intro p e s m below meth c A ls hx hb hr hml hB hown hlocks hin hA hK hN hP hD hS hl
  have hown : s.vm.findClass "java/lang/Integer" = some m.cls := hown
  refine lv_iload_n hx hb d_Int_compareUnsigned_0 rfl (lv_at hl 0 rfl) ?_
  refine lv_ldc (v := (-2147483648 : Int32)) hx hb hown (hB _ mw_389) d_Int_compareUnsigned_1 ?_
  refine lv_iadd hx hb d_Int_compareUnsigned_3 ?_
  refine lv_iload_n hx hb d_Int_compareUnsigned_4 rfl (lv_at hl 1 rfl) ?_
  refine lv_ldc (v := (-2147483648 : Int32)) hx hb hown (hB _ mw_389) d_Int_compareUnsigned_5 ?_
  refine lv_iadd hx hb d_Int_compareUnsigned_7 ?_
  refine k_cSi (As := [.int (p0 + (-2147483648 : Int32)), .int (p1 + (-2147483648 : Int32))]) (rest := []) (wr := []) (wj := []) ⟨hx, hb, hml, hown, hB⟩ (c_Int_compare l D (p0 + (-2147483648 : Int32)) (p1 + (-2147483648 : Int32))) yl_Int_compare mw_390 hK hN hP hD hS hA [] [] [] [] rfl rfl rfl rfl (by decide +kernel) rfl hl.1 rfl (Nat.le_of_ble_eq_true rfl) ⟨Nat.le_of_ble_eq_true rfl, Nat.le_of_ble_eq_true rfl⟩ d_Int_compareUnsigned_8 ⟨Nat.le_of_ble_eq_true rfl, Nat.le_of_ble_eq_true rfl⟩ (fun H locs hP hD hS => ?_)
  have ef : f_Int_compareUnsigned p0 p1 = (f_Int_compare (p0 + (-2147483648 : Int32)) (p1 + (-2147483648 : Int32))) := rfl
  exact k_iret hx hb hr hlocks hK hP hD hS [] rfl rfl (by rw [ef] <;> rfl) d_Int_compareUnsigned_11
/-! java/lang/Integer.numberOfLeadingZeros(I)I -/
theorem d_Int_numberOfLeadingZeros_0 : decode b_Int_numberOfLeadingZeros 0 = .ok (.iload_n 0, 1) := by decide +kernel
theorem d_Int_numberOfLeadingZeros_1 : decode b_Int_numberOfLeadingZeros 1 = .ok (.ifCond .gt 14, 3) := by decide +kernel
theorem d_Int_numberOfLeadingZeros_4 : decode b_Int_numberOfLeadingZeros 4 = .ok (.iload_n 0, 1) := by decide +kernel
theorem d_Int_numberOfLeadingZeros_5 : decode b_Int_numberOfLeadingZeros 5 = .ok (.ifCond .ne 8, 3) := by decide +kernel
theorem d_Int_numberOfLeadingZeros_8 : decode b_Int_numberOfLeadingZeros 8 = .ok (.bipush 32, 2) := by decide +kernel
theorem d_Int_numberOfLeadingZeros_10 : decode b_Int_numberOfLeadingZeros 10 = .ok (.goto 4, 3) := by decide +kernel
theorem d_Int_numberOfLeadingZeros_13 : decode b_Int_numberOfLeadingZeros 13 = .ok (.iconst 0, 1) := by decide +kernel
theorem d_Int_numberOfLeadingZeros_14 : decode b_Int_numberOfLeadingZeros 14 = .ok (.ireturn, 1) := by decide +kernel
theorem d_Int_numberOfLeadingZeros_15 : decode b_Int_numberOfLeadingZeros 15 = .ok (.bipush 31, 2) := by decide +kernel
theorem d_Int_numberOfLeadingZeros_17 : decode b_Int_numberOfLeadingZeros 17 = .ok (.istore_n 1, 1) := by decide +kernel
theorem d_Int_numberOfLeadingZeros_18 : decode b_Int_numberOfLeadingZeros 18 = .ok (.iload_n 0, 1) := by decide +kernel
theorem d_Int_numberOfLeadingZeros_19 : decode b_Int_numberOfLeadingZeros 19 = .ok (.ldc_w 264, 3) := by decide +kernel
theorem d_Int_numberOfLeadingZeros_22 : decode b_Int_numberOfLeadingZeros 22 = .ok (.if_icmp .lt 11, 3) := by decide +kernel
theorem d_Int_numberOfLeadingZeros_25 : decode b_Int_numberOfLeadingZeros 25 = .ok (.iinc 1 (-16), 3) := by decide +kernel
theorem d_Int_numberOfLeadingZeros_28 : decode b_Int_numberOfLeadingZeros 28 = .ok (.iload_n 0, 1) := by decide +kernel
theorem d_Int_numberOfLeadingZeros_29 : decode b_Int_numberOfLeadingZeros 29 = .ok (.bipush 16, 2) := by decide +kernel
theorem d_Int_numberOfLeadingZeros_31 : decode b_Int_numberOfLeadingZeros 31 = .ok (.iushr, 1) := by decide +kernel
theorem d_Int_numberOfLeadingZeros_32 : decode b_Int_numberOfLeadingZeros 32 = .ok (.istore_n 0, 1) := by decide +kernel
theorem d_Int_numberOfLeadingZeros_33 : decode b_Int_numberOfLeadingZeros 33 = .ok (.iload_n 0, 1) := by decide +kernel
theorem d_Int_numberOfLeadingZeros_34 : decode b_Int_numberOfLeadingZeros 34 = .ok (.sipush 256, 3) := by decide +kernel
theorem d_Int_numberOfLeadingZeros_37 : decode b_Int_numberOfLeadingZeros 37 = .ok (.if_icmp .lt 11, 3) := by decide +kernel
theorem d_Int_numberOfLeadingZeros_40 : decode b_Int_numberOfLeadingZeros 40 = .ok (.iinc 1 (-8), 3) := by decide +kernel
theorem d_Int_numberOfLeadingZeros_43 : decode b_Int_numberOfLeadingZeros 43 = .ok (.iload_n 0, 1) := by decide +kernel
theorem d_Int_numberOfLeadingZeros_44 : decode b_Int_numberOfLeadingZeros 44 = .ok (.bipush 8, 2) := by decide +kernel
theorem d_Int_numberOfLeadingZeros_46 : decode b_Int_numberOfLeadingZeros 46 = .ok (.iushr, 1) := by decide +kernel
theorem d_Int_numberOfLeadingZeros_47 : decode b_Int_numberOfLeadingZeros 47 = .ok (.istore_n 0, 1) := by decide +kernel
theorem d_Int_numberOfLeadingZeros_48 : decode b_Int_numberOfLeadingZeros 48 = .ok (.iload_n 0, 1) := by decide +kernel
theorem d_Int_numberOfLeadingZeros_49 : decode b_Int_numberOfLeadingZeros 49 = .ok (.bipush 16, 2) := by decide +kernel
theorem d_Int_numberOfLeadingZeros_51 : decode b_Int_numberOfLeadingZeros 51 = .ok (.if_icmp .lt 10, 3) := by decide +kernel
theorem d_Int_numberOfLeadingZeros_54 : decode b_Int_numberOfLeadingZeros 54 = .ok (.iinc 1 (-4), 3) := by decide +kernel
theorem d_Int_numberOfLeadingZeros_57 : decode b_Int_numberOfLeadingZeros 57 = .ok (.iload_n 0, 1) := by decide +kernel
theorem d_Int_numberOfLeadingZeros_58 : decode b_Int_numberOfLeadingZeros 58 = .ok (.iconst 4, 1) := by decide +kernel
theorem d_Int_numberOfLeadingZeros_59 : decode b_Int_numberOfLeadingZeros 59 = .ok (.iushr, 1) := by decide +kernel
theorem d_Int_numberOfLeadingZeros_60 : decode b_Int_numberOfLeadingZeros 60 = .ok (.istore_n 0, 1) := by decide +kernel
theorem d_Int_numberOfLeadingZeros_61 : decode b_Int_numberOfLeadingZeros 61 = .ok (.iload_n 0, 1) := by decide +kernel
theorem d_Int_numberOfLeadingZeros_62 : decode b_Int_numberOfLeadingZeros 62 = .ok (.iconst 4, 1) := by decide +kernel
theorem d_Int_numberOfLeadingZeros_63 : decode b_Int_numberOfLeadingZeros 63 = .ok (.if_icmp .lt 10, 3) := by decide +kernel
theorem d_Int_numberOfLeadingZeros_66 : decode b_Int_numberOfLeadingZeros 66 = .ok (.iinc 1 (-2), 3) := by decide +kernel
theorem d_Int_numberOfLeadingZeros_69 : decode b_Int_numberOfLeadingZeros 69 = .ok (.iload_n 0, 1) := by decide +kernel
theorem d_Int_numberOfLeadingZeros_70 : decode b_Int_numberOfLeadingZeros 70 = .ok (.iconst 2, 1) := by decide +kernel
theorem d_Int_numberOfLeadingZeros_71 : decode b_Int_numberOfLeadingZeros 71 = .ok (.iushr, 1) := by decide +kernel
theorem d_Int_numberOfLeadingZeros_72 : decode b_Int_numberOfLeadingZeros 72 = .ok (.istore_n 0, 1) := by decide +kernel
theorem d_Int_numberOfLeadingZeros_73 : decode b_Int_numberOfLeadingZeros 73 = .ok (.iload_n 1, 1) := by decide +kernel
theorem d_Int_numberOfLeadingZeros_74 : decode b_Int_numberOfLeadingZeros 74 = .ok (.iload_n 0, 1) := by decide +kernel
theorem d_Int_numberOfLeadingZeros_75 : decode b_Int_numberOfLeadingZeros 75 = .ok (.iconst 1, 1) := by decide +kernel
theorem d_Int_numberOfLeadingZeros_76 : decode b_Int_numberOfLeadingZeros 76 = .ok (.iushr, 1) := by decide +kernel
theorem d_Int_numberOfLeadingZeros_77 : decode b_Int_numberOfLeadingZeros 77 = .ok (.isub, 1) := by decide +kernel
theorem d_Int_numberOfLeadingZeros_78 : decode b_Int_numberOfLeadingZeros 78 = .ok (.ireturn, 1) := by decide +kernel
def f_Int_numberOfLeadingZeros (p0 : Int32) : Int32 :=
  if (0 : Int32) < p0 then
    if p0 < (65536 : Int32) then
      if p0 < (256 : Int32) then
        if p0 < (16 : Int32) then
          if p0 < (4 : Int32) then
            ((31 : Int32) - (ush p0 (1 : Int32)))
          else
            ((29 : Int32) - (ush (ush p0 (2 : Int32)) (1 : Int32)))
        else
          if (ush p0 (4 : Int32)) < (4 : Int32) then
            ((27 : Int32) - (ush (ush p0 (4 : Int32)) (1 : Int32)))
          else
            ((25 : Int32) - (ush (ush (ush p0 (4 : Int32)) (2 : Int32)) (1 : Int32)))
      else
        if (ush p0 (8 : Int32)) < (16 : Int32) then
          if (ush p0 (8 : Int32)) < (4 : Int32) then
            ((23 : Int32) - (ush (ush p0 (8 : Int32)) (1 : Int32)))
          else
            ((21 : Int32) - (ush (ush (ush p0 (8 : Int32)) (2 : Int32)) (1 : Int32)))
        else
          if (ush (ush p0 (8 : Int32)) (4 : Int32)) < (4 : Int32) then
            ((19 : Int32) - (ush (ush (ush p0 (8 : Int32)) (4 : Int32)) (1 : Int32)))
          else
            ((17 : Int32) - (ush (ush (ush (ush p0 (8 : Int32)) (4 : Int32)) (2 : Int32)) (1 : Int32)))
    else
      if (ush p0 (16 : Int32)) < (256 : Int32) then
        if (ush p0 (16 : Int32)) < (16 : Int32) then
          if (ush p0 (16 : Int32)) < (4 : Int32) then
            ((15 : Int32) - (ush (ush p0 (16 : Int32)) (1 : Int32)))
          else
            ((13 : Int32) - (ush (ush (ush p0 (16 : Int32)) (2 : Int32)) (1 : Int32)))
        else
          if (ush (ush p0 (16 : Int32)) (4 : Int32)) < (4 : Int32) then
            ((11 : Int32) - (ush (ush (ush p0 (16 : Int32)) (4 : Int32)) (1 : Int32)))
          else
            ((9 : Int32) - (ush (ush (ush (ush p0 (16 : Int32)) (4 : Int32)) (2 : Int32)) (1 : Int32)))
      else
        if (ush (ush p0 (16 : Int32)) (8 : Int32)) < (16 : Int32) then
          if (ush (ush p0 (16 : Int32)) (8 : Int32)) < (4 : Int32) then
            ((7 : Int32) - (ush (ush (ush p0 (16 : Int32)) (8 : Int32)) (1 : Int32)))
          else
            ((5 : Int32) - (ush (ush (ush (ush p0 (16 : Int32)) (8 : Int32)) (2 : Int32)) (1 : Int32)))
        else
          if (ush (ush (ush p0 (16 : Int32)) (8 : Int32)) (4 : Int32)) < (4 : Int32) then
            ((3 : Int32) - (ush (ush (ush (ush p0 (16 : Int32)) (8 : Int32)) (4 : Int32)) (1 : Int32)))
          else
            ((1 : Int32) - (ush (ush (ush (ush (ush p0 (16 : Int32)) (8 : Int32)) (4 : Int32)) (2 : Int32)) (1 : Int32)))
  else
    (if p0 = (0 : Int32) then (32 : Int32) else (0 : Int32))
set_option maxHeartbeats 4000000 in
set_option maxRecDepth 100000 in
theorem c_Int_numberOfLeadingZeros (l : Launch) (D : va_G) (p0 : Int32) : kMi l y_Int_numberOfLeadingZeros b_Int_numberOfLeadingZeros 2 (some .int) 0 0 D kCl [] [.int p0] [] (f_Int_numberOfLeadingZeros p0) [] := by
  refine k_entry (Qc := fun A => kQi D kCl [] (f_Int_numberOfLeadingZeros p0) [] A) (lv := [(0, .int p0)]) (by decide) (Nat.le_of_ble_eq_true rfl) rfl ?_
  intro p e s m below meth c A ls hx hb hr hml hB hown hlocks hin hA hK hN hP hD hS hl
  have hown : s.vm.findClass "java/lang/Integer" = some m.cls := hown
  refine lv_iload_n hx hb d_Int_numberOfLeadingZeros_0 rfl (lv_at hl 0 rfl) ?_
  refine lv_if_gt (tgt := 15) hx hb d_Int_numberOfLeadingZeros_1 (by decide) (fun (h1 : (0 : Int32) < p0) => ?_) (fun (h1 : ¬ (0 : Int32) < p0) => ?_)
  · refine lv_bipush (v := (31 : Int32)) hx hb d_Int_numberOfLeadingZeros_15 (by decide) ?_
    refine lv_istore_n (lv' := [(1, .int (31 : Int32)), (0, .int p0)]) hx hb d_Int_numberOfLeadingZeros_17 rfl hl (by decide) rfl (fun ls hl => ?_)
    refine lv_iload_n hx hb d_Int_numberOfLeadingZeros_18 rfl (lv_at hl 1 rfl) ?_
    refine lv_ldcw (v := (65536 : Int32)) hx hb hown (hB _ mw_520) d_Int_numberOfLeadingZeros_19 ?_
    refine lv_icmp_lt (tgt := 33) hx hb d_Int_numberOfLeadingZeros_22 (by decide) (fun (h5 : p0 < (65536 : Int32)) => ?_) (fun (h5 : ¬ p0 < (65536 : Int32)) => ?_)
    · refine lv_iload_n hx hb d_Int_numberOfLeadingZeros_33 rfl (lv_at hl 1 rfl) ?_
      refine lv_sipush (v := (256 : Int32)) hx hb d_Int_numberOfLeadingZeros_34 (by decide) ?_
      refine lv_icmp_lt (tgt := 48) hx hb d_Int_numberOfLeadingZeros_37 (by decide) (fun (h9 : p0 < (256 : Int32)) => ?_) (fun (h9 : ¬ p0 < (256 : Int32)) => ?_)
      · refine lv_iload_n hx hb d_Int_numberOfLeadingZeros_48 rfl (lv_at hl 1 rfl) ?_
        refine lv_bipush (v := (16 : Int32)) hx hb d_Int_numberOfLeadingZeros_49 (by decide) ?_
        refine lv_icmp_lt (tgt := 61) hx hb d_Int_numberOfLeadingZeros_51 (by decide) (fun (h13 : p0 < (16 : Int32)) => ?_) (fun (h13 : ¬ p0 < (16 : Int32)) => ?_)
        · refine lv_iload_n hx hb d_Int_numberOfLeadingZeros_61 rfl (lv_at hl 1 rfl) ?_
          refine lv_iconst (v := (4 : Int32)) hx hb d_Int_numberOfLeadingZeros_62 (by decide) ?_
          refine lv_icmp_lt (tgt := 73) hx hb d_Int_numberOfLeadingZeros_63 (by decide) (fun (h17 : p0 < (4 : Int32)) => ?_) (fun (h17 : ¬ p0 < (4 : Int32)) => ?_)
          · refine lv_iload_n hx hb d_Int_numberOfLeadingZeros_73 rfl (lv_at hl 0 rfl) ?_
            refine lv_iload_n hx hb d_Int_numberOfLeadingZeros_74 rfl (lv_at hl 1 rfl) ?_
            refine lv_iconst (v := (1 : Int32)) hx hb d_Int_numberOfLeadingZeros_75 (by decide) ?_
            refine lv_iushr (v := (ush p0 (1 : Int32))) hx hb d_Int_numberOfLeadingZeros_76 rfl ?_
            refine lv_isub hx hb d_Int_numberOfLeadingZeros_77 ?_
            have ef : f_Int_numberOfLeadingZeros p0 = ((31 : Int32) - (ush p0 (1 : Int32))) := by unfold f_Int_numberOfLeadingZeros; rw [if_pos h1, if_pos h5, if_pos h9, if_pos h13, if_pos h17]
            exact k_iret hx hb hr hlocks hK hP hD hS [] rfl rfl (by rw [ef] <;> rfl) d_Int_numberOfLeadingZeros_78
          · refine lv_iinc (v := (29 : Int32)) (lv' := [(1, .int (29 : Int32)), (0, .int p0)]) hx hb d_Int_numberOfLeadingZeros_66 hl (k := 0) rfl (by decide) (by decide) rfl (fun ls hl => ?_)
            refine lv_iload_n hx hb d_Int_numberOfLeadingZeros_69 rfl (lv_at hl 1 rfl) ?_
            refine lv_iconst (v := (2 : Int32)) hx hb d_Int_numberOfLeadingZeros_70 (by decide) ?_
            refine lv_iushr (v := (ush p0 (2 : Int32))) hx hb d_Int_numberOfLeadingZeros_71 rfl ?_
            refine lv_istore_n (lv' := [(0, .int (ush p0 (2 : Int32))), (1, .int (29 : Int32))]) hx hb d_Int_numberOfLeadingZeros_72 rfl hl (by decide) rfl (fun ls hl => ?_)
            refine lv_iload_n hx hb d_Int_numberOfLeadingZeros_73 rfl (lv_at hl 1 rfl) ?_
            refine lv_iload_n hx hb d_Int_numberOfLeadingZeros_74 rfl (lv_at hl 0 rfl) ?_
            refine lv_iconst (v := (1 : Int32)) hx hb d_Int_numberOfLeadingZeros_75 (by decide) ?_
            refine lv_iushr (v := (ush (ush p0 (2 : Int32)) (1 : Int32))) hx hb d_Int_numberOfLeadingZeros_76 rfl ?_
            refine lv_isub hx hb d_Int_numberOfLeadingZeros_77 ?_
            have ef : f_Int_numberOfLeadingZeros p0 = ((29 : Int32) - (ush (ush p0 (2 : Int32)) (1 : Int32))) := by unfold f_Int_numberOfLeadingZeros; rw [if_pos h1, if_pos h5, if_pos h9, if_pos h13, if_neg h17]
            exact k_iret hx hb hr hlocks hK hP hD hS [] rfl rfl (by rw [ef] <;> rfl) d_Int_numberOfLeadingZeros_78
        · refine lv_iinc (v := (27 : Int32)) (lv' := [(1, .int (27 : Int32)), (0, .int p0)]) hx hb d_Int_numberOfLeadingZeros_54 hl (k := 0) rfl (by decide) (by decide) rfl (fun ls hl => ?_)
          refine lv_iload_n hx hb d_Int_numberOfLeadingZeros_57 rfl (lv_at hl 1 rfl) ?_
          refine lv_iconst (v := (4 : Int32)) hx hb d_Int_numberOfLeadingZeros_58 (by decide) ?_
          refine lv_iushr (v := (ush p0 (4 : Int32))) hx hb d_Int_numberOfLeadingZeros_59 rfl ?_
          refine lv_istore_n (lv' := [(0, .int (ush p0 (4 : Int32))), (1, .int (27 : Int32))]) hx hb d_Int_numberOfLeadingZeros_60 rfl hl (by decide) rfl (fun ls hl => ?_)
          refine lv_iload_n hx hb d_Int_numberOfLeadingZeros_61 rfl (lv_at hl 0 rfl) ?_
          refine lv_iconst (v := (4 : Int32)) hx hb d_Int_numberOfLeadingZeros_62 (by decide) ?_
          refine lv_icmp_lt (tgt := 73) hx hb d_Int_numberOfLeadingZeros_63 (by decide) (fun (h21 : (ush p0 (4 : Int32)) < (4 : Int32)) => ?_) (fun (h21 : ¬ (ush p0 (4 : Int32)) < (4 : Int32)) => ?_)
          · refine lv_iload_n hx hb d_Int_numberOfLeadingZeros_73 rfl (lv_at hl 1 rfl) ?_
            refine lv_iload_n hx hb d_Int_numberOfLeadingZeros_74 rfl (lv_at hl 0 rfl) ?_
            refine lv_iconst (v := (1 : Int32)) hx hb d_Int_numberOfLeadingZeros_75 (by decide) ?_
            refine lv_iushr (v := (ush (ush p0 (4 : Int32)) (1 : Int32))) hx hb d_Int_numberOfLeadingZeros_76 rfl ?_
            refine lv_isub hx hb d_Int_numberOfLeadingZeros_77 ?_
            have ef : f_Int_numberOfLeadingZeros p0 = ((27 : Int32) - (ush (ush p0 (4 : Int32)) (1 : Int32))) := by unfold f_Int_numberOfLeadingZeros; rw [if_pos h1, if_pos h5, if_pos h9, if_neg h13, if_pos h21]
            exact k_iret hx hb hr hlocks hK hP hD hS [] rfl rfl (by rw [ef] <;> rfl) d_Int_numberOfLeadingZeros_78
          · refine lv_iinc (v := (25 : Int32)) (lv' := [(1, .int (25 : Int32)), (0, .int (ush p0 (4 : Int32)))]) hx hb d_Int_numberOfLeadingZeros_66 hl (k := 1) rfl (by decide) (by decide) rfl (fun ls hl => ?_)
            refine lv_iload_n hx hb d_Int_numberOfLeadingZeros_69 rfl (lv_at hl 1 rfl) ?_
            refine lv_iconst (v := (2 : Int32)) hx hb d_Int_numberOfLeadingZeros_70 (by decide) ?_
            refine lv_iushr (v := (ush (ush p0 (4 : Int32)) (2 : Int32))) hx hb d_Int_numberOfLeadingZeros_71 rfl ?_
            refine lv_istore_n (lv' := [(0, .int (ush (ush p0 (4 : Int32)) (2 : Int32))), (1, .int (25 : Int32))]) hx hb d_Int_numberOfLeadingZeros_72 rfl hl (by decide) rfl (fun ls hl => ?_)
            refine lv_iload_n hx hb d_Int_numberOfLeadingZeros_73 rfl (lv_at hl 1 rfl) ?_
            refine lv_iload_n hx hb d_Int_numberOfLeadingZeros_74 rfl (lv_at hl 0 rfl) ?_
            refine lv_iconst (v := (1 : Int32)) hx hb d_Int_numberOfLeadingZeros_75 (by decide) ?_
            refine lv_iushr (v := (ush (ush (ush p0 (4 : Int32)) (2 : Int32)) (1 : Int32))) hx hb d_Int_numberOfLeadingZeros_76 rfl ?_
            refine lv_isub hx hb d_Int_numberOfLeadingZeros_77 ?_
            have ef : f_Int_numberOfLeadingZeros p0 = ((25 : Int32) - (ush (ush (ush p0 (4 : Int32)) (2 : Int32)) (1 : Int32))) := by unfold f_Int_numberOfLeadingZeros; rw [if_pos h1, if_pos h5, if_pos h9, if_neg h13, if_neg h21]
            exact k_iret hx hb hr hlocks hK hP hD hS [] rfl rfl (by rw [ef] <;> rfl) d_Int_numberOfLeadingZeros_78
      · refine lv_iinc (v := (23 : Int32)) (lv' := [(1, .int (23 : Int32)), (0, .int p0)]) hx hb d_Int_numberOfLeadingZeros_40 hl (k := 0) rfl (by decide) (by decide) rfl (fun ls hl => ?_)
        refine lv_iload_n hx hb d_Int_numberOfLeadingZeros_43 rfl (lv_at hl 1 rfl) ?_
        refine lv_bipush (v := (8 : Int32)) hx hb d_Int_numberOfLeadingZeros_44 (by decide) ?_
        refine lv_iushr (v := (ush p0 (8 : Int32))) hx hb d_Int_numberOfLeadingZeros_46 rfl ?_
        refine lv_istore_n (lv' := [(0, .int (ush p0 (8 : Int32))), (1, .int (23 : Int32))]) hx hb d_Int_numberOfLeadingZeros_47 rfl hl (by decide) rfl (fun ls hl => ?_)
        refine lv_iload_n hx hb d_Int_numberOfLeadingZeros_48 rfl (lv_at hl 0 rfl) ?_
        refine lv_bipush (v := (16 : Int32)) hx hb d_Int_numberOfLeadingZeros_49 (by decide) ?_
        refine lv_icmp_lt (tgt := 61) hx hb d_Int_numberOfLeadingZeros_51 (by decide) (fun (h25 : (ush p0 (8 : Int32)) < (16 : Int32)) => ?_) (fun (h25 : ¬ (ush p0 (8 : Int32)) < (16 : Int32)) => ?_)
        · refine lv_iload_n hx hb d_Int_numberOfLeadingZeros_61 rfl (lv_at hl 0 rfl) ?_
          refine lv_iconst (v := (4 : Int32)) hx hb d_Int_numberOfLeadingZeros_62 (by decide) ?_
          refine lv_icmp_lt (tgt := 73) hx hb d_Int_numberOfLeadingZeros_63 (by decide) (fun (h29 : (ush p0 (8 : Int32)) < (4 : Int32)) => ?_) (fun (h29 : ¬ (ush p0 (8 : Int32)) < (4 : Int32)) => ?_)
          · refine lv_iload_n hx hb d_Int_numberOfLeadingZeros_73 rfl (lv_at hl 1 rfl) ?_
            refine lv_iload_n hx hb d_Int_numberOfLeadingZeros_74 rfl (lv_at hl 0 rfl) ?_
            refine lv_iconst (v := (1 : Int32)) hx hb d_Int_numberOfLeadingZeros_75 (by decide) ?_
            refine lv_iushr (v := (ush (ush p0 (8 : Int32)) (1 : Int32))) hx hb d_Int_numberOfLeadingZeros_76 rfl ?_
            refine lv_isub hx hb d_Int_numberOfLeadingZeros_77 ?_
            have ef : f_Int_numberOfLeadingZeros p0 = ((23 : Int32) - (ush (ush p0 (8 : Int32)) (1 : Int32))) := by unfold f_Int_numberOfLeadingZeros; rw [if_pos h1, if_pos h5, if_neg h9, if_pos h25, if_pos h29]
            exact k_iret hx hb hr hlocks hK hP hD hS [] rfl rfl (by rw [ef] <;> rfl) d_Int_numberOfLeadingZeros_78
          · refine lv_iinc (v := (21 : Int32)) (lv' := [(1, .int (21 : Int32)), (0, .int (ush p0 (8 : Int32)))]) hx hb d_Int_numberOfLeadingZeros_66 hl (k := 1) rfl (by decide) (by decide) rfl (fun ls hl => ?_)
            refine lv_iload_n hx hb d_Int_numberOfLeadingZeros_69 rfl (lv_at hl 1 rfl) ?_
            refine lv_iconst (v := (2 : Int32)) hx hb d_Int_numberOfLeadingZeros_70 (by decide) ?_
            refine lv_iushr (v := (ush (ush p0 (8 : Int32)) (2 : Int32))) hx hb d_Int_numberOfLeadingZeros_71 rfl ?_
            refine lv_istore_n (lv' := [(0, .int (ush (ush p0 (8 : Int32)) (2 : Int32))), (1, .int (21 : Int32))]) hx hb d_Int_numberOfLeadingZeros_72 rfl hl (by decide) rfl (fun ls hl => ?_)
            refine lv_iload_n hx hb d_Int_numberOfLeadingZeros_73 rfl (lv_at hl 1 rfl) ?_
            refine lv_iload_n hx hb d_Int_numberOfLeadingZeros_74 rfl (lv_at hl 0 rfl) ?_
            refine lv_iconst (v := (1 : Int32)) hx hb d_Int_numberOfLeadingZeros_75 (by decide) ?_
            refine lv_iushr (v := (ush (ush (ush p0 (8 : Int32)) (2 : Int32)) (1 : Int32))) hx hb d_Int_numberOfLeadingZeros_76 rfl ?_
            refine lv_isub hx hb d_Int_numberOfLeadingZeros_77 ?_
            have ef : f_Int_numberOfLeadingZeros p0 = ((21 : Int32) - (ush (ush (ush p0 (8 : Int32)) (2 : Int32)) (1 : Int32))) := by unfold f_Int_numberOfLeadingZeros; rw [if_pos h1, if_pos h5, if_neg h9, if_pos h25, if_neg h29]
            exact k_iret hx hb hr hlocks hK hP hD hS [] rfl rfl (by rw [ef] <;> rfl) d_Int_numberOfLeadingZeros_78
        · refine lv_iinc (v := (19 : Int32)) (lv' := [(1, .int (19 : Int32)), (0, .int (ush p0 (8 : Int32)))]) hx hb d_Int_numberOfLeadingZeros_54 hl (k := 1) rfl (by decide) (by decide) rfl (fun ls hl => ?_)
          refine lv_iload_n hx hb d_Int_numberOfLeadingZeros_57 rfl (lv_at hl 1 rfl) ?_
          refine lv_iconst (v := (4 : Int32)) hx hb d_Int_numberOfLeadingZeros_58 (by decide) ?_
          refine lv_iushr (v := (ush (ush p0 (8 : Int32)) (4 : Int32))) hx hb d_Int_numberOfLeadingZeros_59 rfl ?_
          refine lv_istore_n (lv' := [(0, .int (ush (ush p0 (8 : Int32)) (4 : Int32))), (1, .int (19 : Int32))]) hx hb d_Int_numberOfLeadingZeros_60 rfl hl (by decide) rfl (fun ls hl => ?_)
          refine lv_iload_n hx hb d_Int_numberOfLeadingZeros_61 rfl (lv_at hl 0 rfl) ?_
          refine lv_iconst (v := (4 : Int32)) hx hb d_Int_numberOfLeadingZeros_62 (by decide) ?_
          refine lv_icmp_lt (tgt := 73) hx hb d_Int_numberOfLeadingZeros_63 (by decide) (fun (h33 : (ush (ush p0 (8 : Int32)) (4 : Int32)) < (4 : Int32)) => ?_) (fun (h33 : ¬ (ush (ush p0 (8 : Int32)) (4 : Int32)) < (4 : Int32)) => ?_)
          · refine lv_iload_n hx hb d_Int_numberOfLeadingZeros_73 rfl (lv_at hl 1 rfl) ?_
            refine lv_iload_n hx hb d_Int_numberOfLeadingZeros_74 rfl (lv_at hl 0 rfl) ?_
            refine lv_iconst (v := (1 : Int32)) hx hb d_Int_numberOfLeadingZeros_75 (by decide) ?_
            refine lv_iushr (v := (ush (ush (ush p0 (8 : Int32)) (4 : Int32)) (1 : Int32))) hx hb d_Int_numberOfLeadingZeros_76 rfl ?_
            refine lv_isub hx hb d_Int_numberOfLeadingZeros_77 ?_
            have ef : f_Int_numberOfLeadingZeros p0 = ((19 : Int32) - (ush (ush (ush p0 (8 : Int32)) (4 : Int32)) (1 : Int32))) := by unfold f_Int_numberOfLeadingZeros; rw [if_pos h1, if_pos h5, if_neg h9, if_neg h25, if_pos h33]
            exact k_iret hx hb hr hlocks hK hP hD hS [] rfl rfl (by rw [ef] <;> rfl) d_Int_numberOfLeadingZeros_78
          · refine lv_iinc (v := (17 : Int32)) (lv' := [(1, .int (17 : Int32)), (0, .int (ush (ush p0 (8 : Int32)) (4 : Int32)))]) hx hb d_Int_numberOfLeadingZeros_66 hl (k := 1) rfl (by decide) (by decide) rfl (fun ls hl => ?_)
            refine lv_iload_n hx hb d_Int_numberOfLeadingZeros_69 rfl (lv_at hl 1 rfl) ?_
            refine lv_iconst (v := (2 : Int32)) hx hb d_Int_numberOfLeadingZeros_70 (by decide) ?_
            refine lv_iushr (v := (ush (ush (ush p0 (8 : Int32)) (4 : Int32)) (2 : Int32))) hx hb d_Int_numberOfLeadingZeros_71 rfl ?_
            refine lv_istore_n (lv' := [(0, .int (ush (ush (ush p0 (8 : Int32)) (4 : Int32)) (2 : Int32))), (1, .int (17 : Int32))]) hx hb d_Int_numberOfLeadingZeros_72 rfl hl (by decide) rfl (fun ls hl => ?_)
            refine lv_iload_n hx hb d_Int_numberOfLeadingZeros_73 rfl (lv_at hl 1 rfl) ?_
            refine lv_iload_n hx hb d_Int_numberOfLeadingZeros_74 rfl (lv_at hl 0 rfl) ?_
            refine lv_iconst (v := (1 : Int32)) hx hb d_Int_numberOfLeadingZeros_75 (by decide) ?_
            refine lv_iushr (v := (ush (ush (ush (ush p0 (8 : Int32)) (4 : Int32)) (2 : Int32)) (1 : Int32))) hx hb d_Int_numberOfLeadingZeros_76 rfl ?_
            refine lv_isub hx hb d_Int_numberOfLeadingZeros_77 ?_
            have ef : f_Int_numberOfLeadingZeros p0 = ((17 : Int32) - (ush (ush (ush (ush p0 (8 : Int32)) (4 : Int32)) (2 : Int32)) (1 : Int32))) := by unfold f_Int_numberOfLeadingZeros; rw [if_pos h1, if_pos h5, if_neg h9, if_neg h25, if_neg h33]
            exact k_iret hx hb hr hlocks hK hP hD hS [] rfl rfl (by rw [ef] <;> rfl) d_Int_numberOfLeadingZeros_78
    · refine lv_iinc (v := (15 : Int32)) (lv' := [(1, .int (15 : Int32)), (0, .int p0)]) hx hb d_Int_numberOfLeadingZeros_25 hl (k := 0) rfl (by decide) (by decide) rfl (fun ls hl => ?_)
      refine lv_iload_n hx hb d_Int_numberOfLeadingZeros_28 rfl (lv_at hl 1 rfl) ?_
      refine lv_bipush (v := (16 : Int32)) hx hb d_Int_numberOfLeadingZeros_29 (by decide) ?_
      refine lv_iushr (v := (ush p0 (16 : Int32))) hx hb d_Int_numberOfLeadingZeros_31 rfl ?_
      refine lv_istore_n (lv' := [(0, .int (ush p0 (16 : Int32))), (1, .int (15 : Int32))]) hx hb d_Int_numberOfLeadingZeros_32 rfl hl (by decide) rfl (fun ls hl => ?_)
      refine lv_iload_n hx hb d_Int_numberOfLeadingZeros_33 rfl (lv_at hl 0 rfl) ?_
      refine lv_sipush (v := (256 : Int32)) hx hb d_Int_numberOfLeadingZeros_34 (by decide) ?_
      refine lv_icmp_lt (tgt := 48) hx hb d_Int_numberOfLeadingZeros_37 (by decide) (fun (h37 : (ush p0 (16 : Int32)) < (256 : Int32)) => ?_) (fun (h37 : ¬ (ush p0 (16 : Int32)) < (256 : Int32)) => ?_)
      · refine lv_iload_n hx hb d_Int_numberOfLeadingZeros_48 rfl (lv_at hl 0 rfl) ?_
        refine lv_bipush (v := (16 : Int32)) hx hb d_Int_numberOfLeadingZeros_49 (by decide) ?_
        refine lv_icmp_lt (tgt := 61) hx hb d_Int_numberOfLeadingZeros_51 (by decide) (fun (h41 : (ush p0 (16 : Int32)) < (16 : Int32)) => ?_) (fun (h41 : ¬ (ush p0 (16 : Int32)) < (16 : Int32)) => ?_)
        · refine lv_iload_n hx hb d_Int_numberOfLeadingZeros_61 rfl (lv_at hl 0 rfl) ?_
          refine lv_iconst (v := (4 : Int32)) hx hb d_Int_numberOfLeadingZeros_62 (by decide) ?_
          refine lv_icmp_lt (tgt := 73) hx hb d_Int_numberOfLeadingZeros_63 (by decide) (fun (h45 : (ush p0 (16 : Int32)) < (4 : Int32)) => ?_) (fun (h45 : ¬ (ush p0 (16 : Int32)) < (4 : Int32)) => ?_)
          · refine lv_iload_n hx hb d_Int_numberOfLeadingZeros_73 rfl (lv_at hl 1 rfl) ?_
            refine lv_iload_n hx hb d_Int_numberOfLeadingZeros_74 rfl (lv_at hl 0 rfl) ?_
            refine lv_iconst (v := (1 : Int32)) hx hb d_Int_numberOfLeadingZeros_75 (by decide) ?_
            refine lv_iushr (v := (ush (ush p0 (16 : Int32)) (1 : Int32))) hx hb d_Int_numberOfLeadingZeros_76 rfl ?_
            refine lv_isub hx hb d_Int_numberOfLeadingZeros_77 ?_
            have ef : f_Int_numberOfLeadingZeros p0 = ((15 : Int32) - (ush (ush p0 (16 : Int32)) (1 : Int32))) := by unfold f_Int_numberOfLeadingZeros; rw [if_pos h1, if_neg h5, if_pos h37, if_pos h41, if_pos h45]
            exact k_iret hx hb hr hlocks hK hP hD hS [] rfl rfl (by rw [ef] <;> rfl) d_Int_numberOfLeadingZeros_78
          · refine lv_iinc (v := (13 : Int32)) (lv' := [(1, .int (13 : Int32)), (0, .int (ush p0 (16 : Int32)))]) hx hb d_Int_numberOfLeadingZeros_66 hl (k := 1) rfl (by decide) (by decide) rfl (fun ls hl => ?_)
            refine lv_iload_n hx hb d_Int_numberOfLeadingZeros_69 rfl (lv_at hl 1 rfl) ?_
            refine lv_iconst (v := (2 : Int32)) hx hb d_Int_numberOfLeadingZeros_70 (by decide) ?_
            refine lv_iushr (v := (ush (ush p0 (16 : Int32)) (2 : Int32))) hx hb d_Int_numberOfLeadingZeros_71 rfl ?_
            refine lv_istore_n (lv' := [(0, .int (ush (ush p0 (16 : Int32)) (2 : Int32))), (1, .int (13 : Int32))]) hx hb d_Int_numberOfLeadingZeros_72 rfl hl (by decide) rfl (fun ls hl => ?_)
            refine lv_iload_n hx hb d_Int_numberOfLeadingZeros_73 rfl (lv_at hl 1 rfl) ?_
            refine lv_iload_n hx hb d_Int_numberOfLeadingZeros_74 rfl (lv_at hl 0 rfl) ?_
            refine lv_iconst (v := (1 : Int32)) hx hb d_Int_numberOfLeadingZeros_75 (by decide) ?_
            refine lv_iushr (v := (ush (ush (ush p0 (16 : Int32)) (2 : Int32)) (1 : Int32))) hx hb d_Int_numberOfLeadingZeros_76 rfl ?_
            refine lv_isub hx hb d_Int_numberOfLeadingZeros_77 ?_
            have ef : f_Int_numberOfLeadingZeros p0 = ((13 : Int32) - (ush (ush (ush p0 (16 : Int32)) (2 : Int32)) (1 : Int32))) := by unfold f_Int_numberOfLeadingZeros; rw [if_pos h1, if_neg h5, if_pos h37, if_pos h41, if_neg h45]
            exact k_iret hx hb hr hlocks hK hP hD hS [] rfl rfl (by rw [ef] <;> rfl) d_Int_numberOfLeadingZeros_78
        · refine lv_iinc (v := (11 : Int32)) (lv' := [(1, .int (11 : Int32)), (0, .int (ush p0 (16 : Int32)))]) hx hb d_Int_numberOfLeadingZeros_54 hl (k := 1) rfl (by decide) (by decide) rfl (fun ls hl => ?_)
          refine lv_iload_n hx hb d_Int_numberOfLeadingZeros_57 rfl (lv_at hl 1 rfl) ?_
          refine lv_iconst (v := (4 : Int32)) hx hb d_Int_numberOfLeadingZeros_58 (by decide) ?_
          refine lv_iushr (v := (ush (ush p0 (16 : Int32)) (4 : Int32))) hx hb d_Int_numberOfLeadingZeros_59 rfl ?_
          refine lv_istore_n (lv' := [(0, .int (ush (ush p0 (16 : Int32)) (4 : Int32))), (1, .int (11 : Int32))]) hx hb d_Int_numberOfLeadingZeros_60 rfl hl (by decide) rfl (fun ls hl => ?_)
          refine lv_iload_n hx hb d_Int_numberOfLeadingZeros_61 rfl (lv_at hl 0 rfl) ?_
          refine lv_iconst (v := (4 : Int32)) hx hb d_Int_numberOfLeadingZeros_62 (by decide) ?_
          refine lv_icmp_lt (tgt := 73) hx hb d_Int_numberOfLeadingZeros_63 (by decide) (fun (h49 : (ush (ush p0 (16 : Int32)) (4 : Int32)) < (4 : Int32)) => ?_) (fun (h49 : ¬ (ush (ush p0 (16 : Int32)) (4 : Int32)) < (4 : Int32)) => ?_)
          · refine lv_iload_n hx hb d_Int_numberOfLeadingZeros_73 rfl (lv_at hl 1 rfl) ?_
            refine lv_iload_n hx hb d_Int_numberOfLeadingZeros_74 rfl (lv_at hl 0 rfl) ?_
            refine lv_iconst (v := (1 : Int32)) hx hb d_Int_numberOfLeadingZeros_75 (by decide) ?_
            refine lv_iushr (v := (ush (ush (ush p0 (16 : Int32)) (4 : Int32)) (1 : Int32))) hx hb d_Int_numberOfLeadingZeros_76 rfl ?_
            refine lv_isub hx hb d_Int_numberOfLeadingZeros_77 ?_
            have ef : f_Int_numberOfLeadingZeros p0 = ((11 : Int32) - (ush (ush (ush p0 (16 : Int32)) (4 : Int32)) (1 : Int32))) := by unfold f_Int_numberOfLeadingZeros; rw [if_pos h1, if_neg h5, if_pos h37, if_neg h41, if_pos h49]
            exact k_iret hx hb hr hlocks hK hP hD hS [] rfl rfl (by rw [ef] <;> rfl) d_Int_numberOfLeadingZeros_78
          · refine lv_iinc (v := (9 : Int32)) (lv' := [(1, .int (9 : Int32)), (0, .int (ush (ush p0 (16 : Int32)) (4 : Int32)))]) hx hb d_Int_numberOfLeadingZeros_66 hl (k := 1) rfl (by decide) (by decide) rfl (fun ls hl => ?_)
            refine lv_iload_n hx hb d_Int_numberOfLeadingZeros_69 rfl (lv_at hl 1 rfl) ?_
            refine lv_iconst (v := (2 : Int32)) hx hb d_Int_numberOfLeadingZeros_70 (by decide) ?_
            refine lv_iushr (v := (ush (ush (ush p0 (16 : Int32)) (4 : Int32)) (2 : Int32))) hx hb d_Int_numberOfLeadingZeros_71 rfl ?_
            refine lv_istore_n (lv' := [(0, .int (ush (ush (ush p0 (16 : Int32)) (4 : Int32)) (2 : Int32))), (1, .int (9 : Int32))]) hx hb d_Int_numberOfLeadingZeros_72 rfl hl (by decide) rfl (fun ls hl => ?_)
            refine lv_iload_n hx hb d_Int_numberOfLeadingZeros_73 rfl (lv_at hl 1 rfl) ?_
            refine lv_iload_n hx hb d_Int_numberOfLeadingZeros_74 rfl (lv_at hl 0 rfl) ?_
            refine lv_iconst (v := (1 : Int32)) hx hb d_Int_numberOfLeadingZeros_75 (by decide) ?_
            refine lv_iushr (v := (ush (ush (ush (ush p0 (16 : Int32)) (4 : Int32)) (2 : Int32)) (1 : Int32))) hx hb d_Int_numberOfLeadingZeros_76 rfl ?_
            refine lv_isub hx hb d_Int_numberOfLeadingZeros_77 ?_
            have ef : f_Int_numberOfLeadingZeros p0 = ((9 : Int32) - (ush (ush (ush (ush p0 (16 : Int32)) (4 : Int32)) (2 : Int32)) (1 : Int32))) := by unfold f_Int_numberOfLeadingZeros; rw [if_pos h1, if_neg h5, if_pos h37, if_neg h41, if_neg h49]
            exact k_iret hx hb hr hlocks hK hP hD hS [] rfl rfl (by rw [ef] <;> rfl) d_Int_numberOfLeadingZeros_78
      · refine lv_iinc (v := (7 : Int32)) (lv' := [(1, .int (7 : Int32)), (0, .int (ush p0 (16 : Int32)))]) hx hb d_Int_numberOfLeadingZeros_40 hl (k := 1) rfl (by decide) (by decide) rfl (fun ls hl => ?_)
        refine lv_iload_n hx hb d_Int_numberOfLeadingZeros_43 rfl (lv_at hl 1 rfl) ?_
        refine lv_bipush (v := (8 : Int32)) hx hb d_Int_numberOfLeadingZeros_44 (by decide) ?_
        refine lv_iushr (v := (ush (ush p0 (16 : Int32)) (8 : Int32))) hx hb d_Int_numberOfLeadingZeros_46 rfl ?_
        refine lv_istore_n (lv' := [(0, .int (ush (ush p0 (16 : Int32)) (8 : Int32))), (1, .int (7 : Int32))]) hx hb d_Int_numberOfLeadingZeros_47 rfl hl (by decide) rfl (fun ls hl => ?_)
        refine lv_iload_n hx hb d_Int_numberOfLeadingZeros_48 rfl (lv_at hl 0 rfl) ?_
        refine lv_bipush (v := (16 : Int32)) hx hb d_Int_numberOfLeadingZeros_49 (by decide) ?_
        refine lv_icmp_lt (tgt := 61) hx hb d_Int_numberOfLeadingZeros_51 (by decide) (fun (h53 : (ush (ush p0 (16 : Int32)) (8 : Int32)) < (16 : Int32)) => ?_) (fun (h53 : ¬ (ush (ush p0 (16 : Int32)) (8 : Int32)) < (16 : Int32)) => ?_)
        · refine lv_iload_n hx hb d_Int_numberOfLeadingZeros_61 rfl (lv_at hl 0 rfl) ?_
          refine lv_iconst (v := (4 : Int32)) hx hb d_Int_numberOfLeadingZeros_62 (by decide) ?_
          refine lv_icmp_lt (tgt := 73) hx hb d_Int_numberOfLeadingZeros_63 (by decide) (fun (h57 : (ush (ush p0 (16 : Int32)) (8 : Int32)) < (4 : Int32)) => ?_) (fun (h57 : ¬ (ush (ush p0 (16 : Int32)) (8 : Int32)) < (4 : Int32)) => ?_)
          · refine lv_iload_n hx hb d_Int_numberOfLeadingZeros_73 rfl (lv_at hl 1 rfl) ?_
            refine lv_iload_n hx hb d_Int_numberOfLeadingZeros_74 rfl (lv_at hl 0 rfl) ?_
            refine lv_iconst (v := (1 : Int32)) hx hb d_Int_numberOfLeadingZeros_75 (by decide) ?_
            refine lv_iushr (v := (ush (ush (ush p0 (16 : Int32)) (8 : Int32)) (1 : Int32))) hx hb d_Int_numberOfLeadingZeros_76 rfl ?_
            refine lv_isub hx hb d_Int_numberOfLeadingZeros_77 ?_
            have ef : f_Int_numberOfLeadingZeros p0 = ((7 : Int32) - (ush (ush (ush p0 (16 : Int32)) (8 : Int32)) (1 : Int32))) := by unfold f_Int_numberOfLeadingZeros; rw [if_pos h1, if_neg h5, if_neg h37, if_pos h53, if_pos h57]
            exact k_iret hx hb hr hlocks hK hP hD hS [] rfl rfl (by rw [ef] <;> rfl) d_Int_numberOfLeadingZeros_78
          · refine lv_iinc (v := (5 : Int32)) (lv' := [(1, .int (5 : Int32)), (0, .int (ush (ush p0 (16 : Int32)) (8 : Int32)))]) hx hb d_Int_numberOfLeadingZeros_66 hl (k := 1) rfl (by decide) (by decide) rfl (fun ls hl => ?_)
            refine lv_iload_n hx hb d_Int_numberOfLeadingZeros_69 rfl (lv_at hl 1 rfl) ?_
            refine lv_iconst (v := (2 : Int32)) hx hb d_Int_numberOfLeadingZeros_70 (by decide) ?_
            refine lv_iushr (v := (ush (ush (ush p0 (16 : Int32)) (8 : Int32)) (2 : Int32))) hx hb d_Int_numberOfLeadingZeros_71 rfl ?_
            refine lv_istore_n (lv' := [(0, .int (ush (ush (ush p0 (16 : Int32)) (8 : Int32)) (2 : Int32))), (1, .int (5 : Int32))]) hx hb d_Int_numberOfLeadingZeros_72 rfl hl (by decide) rfl (fun ls hl => ?_)
            refine lv_iload_n hx hb d_Int_numberOfLeadingZeros_73 rfl (lv_at hl 1 rfl) ?_
            refine lv_iload_n hx hb d_Int_numberOfLeadingZeros_74 rfl (lv_at hl 0 rfl) ?_
            refine lv_iconst (v := (1 : Int32)) hx hb d_Int_numberOfLeadingZeros_75 (by decide) ?_
            refine lv_iushr (v := (ush (ush (ush (ush p0 (16 : Int32)) (8 : Int32)) (2 : Int32)) (1 : Int32))) hx hb d_Int_numberOfLeadingZeros_76 rfl ?_
            refine lv_isub hx hb d_Int_numberOfLeadingZeros_77 ?_
            have ef : f_Int_numberOfLeadingZeros p0 = ((5 : Int32) - (ush (ush (ush (ush p0 (16 : Int32)) (8 : Int32)) (2 : Int32)) (1 : Int32))) := by unfold f_Int_numberOfLeadingZeros; rw [if_pos h1, if_neg h5, if_neg h37, if_pos h53, if_neg h57]
            exact k_iret hx hb hr hlocks hK hP hD hS [] rfl rfl (by rw [ef] <;> rfl) d_Int_numberOfLeadingZeros_78
        · refine lv_iinc (v := (3 : Int32)) (lv' := [(1, .int (3 : Int32)), (0, .int (ush (ush p0 (16 : Int32)) (8 : Int32)))]) hx hb d_Int_numberOfLeadingZeros_54 hl (k := 1) rfl (by decide) (by decide) rfl (fun ls hl => ?_)
          refine lv_iload_n hx hb d_Int_numberOfLeadingZeros_57 rfl (lv_at hl 1 rfl) ?_
          refine lv_iconst (v := (4 : Int32)) hx hb d_Int_numberOfLeadingZeros_58 (by decide) ?_
          refine lv_iushr (v := (ush (ush (ush p0 (16 : Int32)) (8 : Int32)) (4 : Int32))) hx hb d_Int_numberOfLeadingZeros_59 rfl ?_
          refine lv_istore_n (lv' := [(0, .int (ush (ush (ush p0 (16 : Int32)) (8 : Int32)) (4 : Int32))), (1, .int (3 : Int32))]) hx hb d_Int_numberOfLeadingZeros_60 rfl hl (by decide) rfl (fun ls hl => ?_)
          refine lv_iload_n hx hb d_Int_numberOfLeadingZeros_61 rfl (lv_at hl 0 rfl) ?_
          refine lv_iconst (v := (4 : Int32)) hx hb d_Int_numberOfLeadingZeros_62 (by decide) ?_
          refine lv_icmp_lt (tgt := 73) hx hb d_Int_numberOfLeadingZeros_63 (by decide) (fun (h61 : (ush (ush (ush p0 (16 : Int32)) (8 : Int32)) (4 : Int32)) < (4 : Int32)) => ?_) (fun (h61 : ¬ (ush (ush (ush p0 (16 : Int32)) (8 : Int32)) (4 : Int32)) < (4 : Int32)) => ?_)
          · refine lv_iload_n hx hb d_Int_numberOfLeadingZeros_73 rfl (lv_at hl 1 rfl) ?_
            refine lv_iload_n hx hb d_Int_numberOfLeadingZeros_74 rfl (lv_at hl 0 rfl) ?_
            refine lv_iconst (v := (1 : Int32)) hx hb d_Int_numberOfLeadingZeros_75 (by decide) ?_
            refine lv_iushr (v := (ush (ush (ush (ush p0 (16 : Int32)) (8 : Int32)) (4 : Int32)) (1 : Int32))) hx hb d_Int_numberOfLeadingZeros_76 rfl ?_
            refine lv_isub hx hb d_Int_numberOfLeadingZeros_77 ?_
            have ef : f_Int_numberOfLeadingZeros p0 = ((3 : Int32) - (ush (ush (ush (ush p0 (16 : Int32)) (8 : Int32)) (4 : Int32)) (1 : Int32))) := by unfold f_Int_numberOfLeadingZeros; rw [if_pos h1, if_neg h5, if_neg h37, if_neg h53, if_pos h61]
            exact k_iret hx hb hr hlocks hK hP hD hS [] rfl rfl (by rw [ef] <;> rfl) d_Int_numberOfLeadingZeros_78
          · refine lv_iinc (v := (1 : Int32)) (lv' := [(1, .int (1 : Int32)), (0, .int (ush (ush (ush p0 (16 : Int32)) (8 : Int32)) (4 : Int32)))]) hx hb d_Int_numberOfLeadingZeros_66 hl (k := 1) rfl (by decide) (by decide) rfl (fun ls hl => ?_)
            refine lv_iload_n hx hb d_Int_numberOfLeadingZeros_69 rfl (lv_at hl 1 rfl) ?_
            refine lv_iconst (v := (2 : Int32)) hx hb d_Int_numberOfLeadingZeros_70 (by decide) ?_
            refine lv_iushr (v := (ush (ush (ush (ush p0 (16 : Int32)) (8 : Int32)) (4 : Int32)) (2 : Int32))) hx hb d_Int_numberOfLeadingZeros_71 rfl ?_
            refine lv_istore_n (lv' := [(0, .int (ush (ush (ush (ush p0 (16 : Int32)) (8 : Int32)) (4 : Int32)) (2 : Int32))), (1, .int (1 : Int32))]) hx hb d_Int_numberOfLeadingZeros_72 rfl hl (by decide) rfl (fun ls hl => ?_)
            refine lv_iload_n hx hb d_Int_numberOfLeadingZeros_73 rfl (lv_at hl 1 rfl) ?_
            refine lv_iload_n hx hb d_Int_numberOfLeadingZeros_74 rfl (lv_at hl 0 rfl) ?_
            refine lv_iconst (v := (1 : Int32)) hx hb d_Int_numberOfLeadingZeros_75 (by decide) ?_
            refine lv_iushr (v := (ush (ush (ush (ush (ush p0 (16 : Int32)) (8 : Int32)) (4 : Int32)) (2 : Int32)) (1 : Int32))) hx hb d_Int_numberOfLeadingZeros_76 rfl ?_
            refine lv_isub hx hb d_Int_numberOfLeadingZeros_77 ?_
            have ef : f_Int_numberOfLeadingZeros p0 = ((1 : Int32) - (ush (ush (ush (ush (ush p0 (16 : Int32)) (8 : Int32)) (4 : Int32)) (2 : Int32)) (1 : Int32))) := by unfold f_Int_numberOfLeadingZeros; rw [if_pos h1, if_neg h5, if_neg h37, if_neg h53, if_neg h61]
            exact k_iret hx hb hr hlocks hK hP hD hS [] rfl rfl (by rw [ef] <;> rfl) d_Int_numberOfLeadingZeros_78
  · refine lv_iload_n hx hb d_Int_numberOfLeadingZeros_4 rfl (lv_at hl 0 rfl) ?_
    refine k_join2 (c0 := p0 = (0 : Int32)) (x1 := (32 : Int32)) (x2 := (0 : Int32)) (rest := []) 14 ?_ (fun k63 k64 => ?_)
    rotate_left
    · refine lv_if_ne (tgt := 13) hx hb d_Int_numberOfLeadingZeros_5 (by decide) (fun (h62 : ¬ p0 = (0 : Int32)) => ?_) (fun (h62 : p0 = (0 : Int32)) => ?_)
      · refine lv_iconst (v := (0 : Int32)) hx hb d_Int_numberOfLeadingZeros_13 (by decide) ?_
        exact k64 h62
      · refine lv_bipush (v := (32 : Int32)) hx hb d_Int_numberOfLeadingZeros_8 (by decide) ?_
        refine lv_goto (tgt := 14) hx hb d_Int_numberOfLeadingZeros_10 (by decide) ?_
        exact k63 h62
    have ef : f_Int_numberOfLeadingZeros p0 = (if p0 = (0 : Int32) then (32 : Int32) else (0 : Int32)) := by unfold f_Int_numberOfLeadingZeros; rw [if_neg h1]
    exact k_iret hx hb hr hlocks hK hP hD hS [] rfl rfl (by rw [ef] <;> rfl) d_Int_numberOfLeadingZeros_14
/-! java/lang/Integer.rotateLeft(II)I -/
theorem d_Int_rotateLeft_0 : decode b_Int_rotateLeft 0 = .ok (.iload_n 0, 1) := by decide +kernel
theorem d_Int_rotateLeft_1 : decode b_Int_rotateLeft 1 = .ok (.iload_n 1, 1) := by decide +kernel
theorem d_Int_rotateLeft_2 : decode b_Int_rotateLeft 2 = .ok (.ishl, 1) := by decide +kernel
theorem d_Int_rotateLeft_3 : decode b_Int_rotateLeft 3 = .ok (.iload_n 0, 1) := by decide +kernel
theorem d_Int_rotateLeft_4 : decode b_Int_rotateLeft 4 = .ok (.iload_n 1, 1) := by decide +kernel
theorem d_Int_rotateLeft_5 : decode b_Int_rotateLeft 5 = .ok (.ineg, 1) := by decide +kernel
theorem d_Int_rotateLeft_6 : decode b_Int_rotateLeft 6 = .ok (.iushr, 1) := by decide +kernel
theorem d_Int_rotateLeft_7 : decode b_Int_rotateLeft 7 = .ok (.ior, 1) := by decide +kernel
theorem d_Int_rotateLeft_8 : decode b_Int_rotateLeft 8 = .ok (.ireturn, 1) := by decide +kernel
def f_Int_rotateLeft (p0 : Int32) (p1 : Int32) : Int32 :=
  ((shl p0 p1) ||| (ush p0 (-p1)))
set_option maxHeartbeats 4000000 in
set_option maxRecDepth 100000 in
theorem c_Int_rotateLeft (l : Launch) (D : va_G) (p0 : Int32) (p1 : Int32) : kMi l y_Int_rotateLeft b_Int_rotateLeft 2 (some .int) 0 0 D kCl [] [.int p0, .int p1] [] (f_Int_rotateLeft p0 p1) [] := by
  refine k_entry (Qc := fun A => kQi D kCl [] (f_Int_rotateLeft p0 p1) [] A) (lv := [(0, .int p0), (1, .int p1)]) (by decide) (Nat.le_of_ble_eq_true rfl) rfl ?_
  intro p e s m below meth c A ls hx hb hr hml hB hown hlocks hin hA hK hN hP hD hS hl
  have hown : s.vm.findClass "java/lang/Integer" = some m.cls := hown
  refine lv_iload_n hx hb d_Int_rotateLeft_0 rfl (lv_at hl 0 rfl) ?_
  refine lv_iload_n hx hb d_Int_rotateLeft_1 rfl (lv_at hl 1 rfl) ?_
  refine lv_ishl hx hb d_Int_rotateLeft_2 ?_
  refine lv_iload_n hx hb d_Int_rotateLeft_3 rfl (lv_at hl 0 rfl) ?_
  refine lv_iload_n hx hb d_Int_rotateLeft_4 rfl (lv_at hl 1 rfl) ?_
  refine lv_ineg hx hb d_Int_rotateLeft_5 ?_
  refine lv_iushr (v := (ush p0 (-p1))) hx hb d_Int_rotateLeft_6 rfl ?_
  refine lv_ior hx hb d_Int_rotateLeft_7 ?_
  have ef : f_Int_rotateLeft p0 p1 = ((shl p0 p1) ||| (ush p0 (-p1))) := rfl
  exact k_iret hx hb hr hlocks hK hP hD hS [] rfl rfl (by rw [ef] <;> rfl) d_Int_rotateLeft_8
/-! MappedProcessor$Memory.keep(II)V -/
theorem d_Mem_keep_0 : decode b_Mem_keep 0 = .ok (.aload_n 0, 1) := by decide +kernel
theorem d_Mem_keep_1 : decode b_Mem_keep 1 = .ok (.getfield 9, 3) := by decide +kernel
theorem d_Mem_keep_4 : decode b_Mem_keep 4 = .ok (.iload_n 1, 1) := by decide +kernel
theorem d_Mem_keep_5 : decode b_Mem_keep 5 = .ok (.ldc 15, 2) := by decide +kernel
theorem d_Mem_keep_7 : decode b_Mem_keep 7 = .ok (.iand, 1) := by decide +kernel
theorem d_Mem_keep_8 : decode b_Mem_keep 8 = .ok (.iconst 2, 1) := by decide +kernel
theorem d_Mem_keep_9 : decode b_Mem_keep 9 = .ok (.iushr, 1) := by decide +kernel
theorem d_Mem_keep_10 : decode b_Mem_keep 10 = .ok (.iload_n 2, 1) := by decide +kernel
theorem d_Mem_keep_11 : decode b_Mem_keep 11 = .ok (.iastore, 1) := by decide +kernel
theorem d_Mem_keep_12 : decode b_Mem_keep 12 = .ok (.return_, 1) := by decide +kernel
def f_Mem_keep (p0 : Int32) (p1 : Int32) (w : Nat → Int32) : (Nat → Int32) :=
  (upd w (ix (ush (p0 &&& (65535 : Int32)) (2 : Int32))) p1)
set_option maxHeartbeats 4000000 in
set_option maxRecDepth 100000 in
theorem c_Mem_keep (l : Launch) (D : va_G) (aM aW : Nat) (cW : ClassId) (w : Nat → Int32) (p0 : Int32) (p1 : Int32) : kMv l y_Mem_keep b_Mem_keep 3 none 0 0 D kCl [(cW, .int)] [.ref aM, .int p0, .int p1] [(aM, .inr (8, [.ref aW])), (aW, .inl (cW, 16384, .inl w))] [(aM, .inr (8, [.ref aW])), (aW, .inl (cW, 16384, .inl (f_Mem_keep p0 p1 w)))] := by
  refine k_entry (Qc := fun A => kQv D kCl [(cW, .int)] [(aM, .inr (8, [.ref aW])), (aW, .inl (cW, 16384, .inl (f_Mem_keep p0 p1 w)))] A) (lv := [(0, .ref aM), (1, .int p0), (2, .int p1)]) (by decide) (Nat.le_of_ble_eq_true rfl) rfl ?_
  intro p e s m below meth c A ls hx hb hr hml hB hown hlocks hin hA hK hN hP hD hS hl
  have hown : s.vm.findClass "MappedProcessor$Memory" = some m.cls := hown
  refine lv_aload_n hx hb d_Mem_keep_0 rfl (lv_at hl 0 rfl) ?_
  refine va_get (D := D) (ci := 8) (v := .ref aW) (C := "MappedProcessor$Memory") (T := T_Mem) (N := 1) hx hb hB iw_Mem hown hK hP 0 rfl rfl 0 (by decide) (hB _ mw_28) (fun _ h9 => h9) rfl d_Mem_keep_1 ?_
  refine lv_iload_n hx hb d_Mem_keep_4 rfl (lv_at hl 1 rfl) ?_
  refine lv_ldc (v := (65535 : Int32)) hx hb hown (hB _ mw_248) d_Mem_keep_5 ?_
  refine lv_iand hx hb d_Mem_keep_7 ?_
  refine lv_iconst (v := (2 : Int32)) hx hb d_Mem_keep_8 (by decide) ?_
  refine lv_iushr (v := (ush (p0 &&& (65535 : Int32)) (2 : Int32))) hx hb d_Mem_keep_9 rfl ?_
  refine lv_iload_n hx hb d_Mem_keep_10 rfl (lv_at hl 2 rfl) ?_
  refine k_iast (j := (ix (ush (p0 &&& (65535 : Int32)) (2 : Int32)))) hx hb hK hP hD hS 1 0 rfl rfl rfl (ixW _) d_Mem_keep_11 (fun H locs hP hD hS => ?_)
  have hP : va_P D kCl [(aM, .inr (8, [.ref aW])), (aW, .inl (cW, 16384, .inl (upd w (ix (ush (p0 &&& (65535 : Int32)) (2 : Int32))) p1)))] H := hP
  have hD : va_D A [(aM, .inr (8, [.ref aW])), (aW, .inl (cW, 16384, .inl (upd w (ix (ush (p0 &&& (65535 : Int32)) (2 : Int32))) p1)))] := hD
  have ef : f_Mem_keep p0 p1 w = (upd w (ix (ush (p0 &&& (65535 : Int32)) (2 : Int32))) p1) := rfl
  exact k_vret hx hb hr hlocks hK hP hD hS [0, 1] rfl (by rw [ef] <;> rfl) d_Mem_keep_12
/-! MappedProcessor$Memory.at(I)I -/
theorem d_Mem_at_0 : decode b_Mem_at 0 = .ok (.aload_n 0, 1) := by decide +kernel
theorem d_Mem_at_1 : decode b_Mem_at 1 = .ok (.getfield 9, 3) := by decide +kernel
theorem d_Mem_at_4 : decode b_Mem_at 4 = .ok (.iload_n 1, 1) := by decide +kernel
theorem d_Mem_at_5 : decode b_Mem_at 5 = .ok (.ldc 15, 2) := by decide +kernel
theorem d_Mem_at_7 : decode b_Mem_at 7 = .ok (.iand, 1) := by decide +kernel
theorem d_Mem_at_8 : decode b_Mem_at 8 = .ok (.iconst 2, 1) := by decide +kernel
theorem d_Mem_at_9 : decode b_Mem_at 9 = .ok (.iushr, 1) := by decide +kernel
theorem d_Mem_at_10 : decode b_Mem_at 10 = .ok (.iaload, 1) := by decide +kernel
theorem d_Mem_at_11 : decode b_Mem_at 11 = .ok (.ireturn, 1) := by decide +kernel
def f_Mem_at (p0 : Int32) (w : Nat → Int32) : Int32 :=
  (w (ix (ush (p0 &&& (65535 : Int32)) (2 : Int32))))
set_option maxHeartbeats 4000000 in
set_option maxRecDepth 100000 in
theorem c_Mem_at (l : Launch) (D : va_G) (aM aW : Nat) (cW : ClassId) (w : Nat → Int32) (p0 : Int32) : kMi l y_Mem_at b_Mem_at 2 (some .int) 0 0 D kCl [(cW, .int)] [.ref aM, .int p0] [(aM, .inr (8, [.ref aW])), (aW, .inl (cW, 16384, .inl w))] (f_Mem_at p0 w) [(aM, .inr (8, [.ref aW])), (aW, .inl (cW, 16384, .inl w))] := by
  refine k_entry (Qc := fun A => kQi D kCl [(cW, .int)] (f_Mem_at p0 w) [(aM, .inr (8, [.ref aW])), (aW, .inl (cW, 16384, .inl w))] A) (lv := [(0, .ref aM), (1, .int p0)]) (by decide) (Nat.le_of_ble_eq_true rfl) rfl ?_
  intro p e s m below meth c A ls hx hb hr hml hB hown hlocks hin hA hK hN hP hD hS hl
  have hown : s.vm.findClass "MappedProcessor$Memory" = some m.cls := hown
  refine lv_aload_n hx hb d_Mem_at_0 rfl (lv_at hl 0 rfl) ?_
  refine va_get (D := D) (ci := 8) (v := .ref aW) (C := "MappedProcessor$Memory") (T := T_Mem) (N := 1) hx hb hB iw_Mem hown hK hP 0 rfl rfl 0 (by decide) (hB _ mw_28) (fun _ h9 => h9) rfl d_Mem_at_1 ?_
  refine lv_iload_n hx hb d_Mem_at_4 rfl (lv_at hl 1 rfl) ?_
  refine lv_ldc (v := (65535 : Int32)) hx hb hown (hB _ mw_248) d_Mem_at_5 ?_
  refine lv_iand hx hb d_Mem_at_7 ?_
  refine lv_iconst (v := (2 : Int32)) hx hb d_Mem_at_8 (by decide) ?_
  refine lv_iushr (v := (ush (p0 &&& (65535 : Int32)) (2 : Int32))) hx hb d_Mem_at_9 rfl ?_
  refine k_iald (j := (ix (ush (p0 &&& (65535 : Int32)) (2 : Int32)))) hx hb hK hP 1 0 rfl rfl rfl (ixW _) d_Mem_at_10 ?_
  have ef : f_Mem_at p0 w = (w (ix (ush (p0 &&& (65535 : Int32)) (2 : Int32)))) := rfl
  exact k_iret hx hb hr hlocks hK hP hD hS [0, 1] rfl rfl (by rw [ef] <;> rfl) d_Mem_at_11
/-! MappedProcessor$State.keepRegister(II)V -/
theorem d_Sta_keepRegister_0 : decode b_Sta_keepRegister 0 = .ok (.aload_n 0, 1) := by decide +kernel
theorem d_Sta_keepRegister_1 : decode b_Sta_keepRegister 1 = .ok (.getfield 9, 3) := by decide +kernel
theorem d_Sta_keepRegister_4 : decode b_Sta_keepRegister 4 = .ok (.iload_n 1, 1) := by decide +kernel
theorem d_Sta_keepRegister_5 : decode b_Sta_keepRegister 5 = .ok (.bipush 31, 2) := by decide +kernel
theorem d_Sta_keepRegister_7 : decode b_Sta_keepRegister 7 = .ok (.iand, 1) := by decide +kernel
theorem d_Sta_keepRegister_8 : decode b_Sta_keepRegister 8 = .ok (.iload_n 2, 1) := by decide +kernel
theorem d_Sta_keepRegister_9 : decode b_Sta_keepRegister 9 = .ok (.iastore, 1) := by decide +kernel
theorem d_Sta_keepRegister_10 : decode b_Sta_keepRegister 10 = .ok (.return_, 1) := by decide +kernel
def f_Sta_keepRegister (p0 : Int32) (p1 : Int32) (g : Nat → Int32) : (Nat → Int32) :=
  (upd g (ix (p0 &&& (31 : Int32))) p1)
set_option maxHeartbeats 4000000 in
set_option maxRecDepth 100000 in
theorem c_Sta_keepRegister (l : Launch) (D : va_G) (aS aG aX : Nat) (cG cX : ClassId) (g : Nat → Int32) (sp : Nat → Int32) (nx : Int32) (lt : Int32) (sm : Int32) (ex : Int32) (p0 : Int32) (p1 : Int32) : kMv l y_Sta_keepRegister b_Sta_keepRegister 3 none 0 0 D kCl [(cG, .int), (cX, .int)] [.ref aS, .int p0, .int p1] [(aS, .inr (9, [.ref aG, .ref aX, .int nx, .int lt, .int sm, .int ex])), (aG, .inl (cG, 32, .inl g)), (aX, .inl (cX, 64, .inl sp))] [(aS, .inr (9, [.ref aG, .ref aX, .int nx, .int lt, .int sm, .int ex])), (aG, .inl (cG, 32, .inl (f_Sta_keepRegister p0 p1 g))), (aX, .inl (cX, 64, .inl sp))] := by
  refine k_entry (Qc := fun A => kQv D kCl [(cG, .int), (cX, .int)] [(aS, .inr (9, [.ref aG, .ref aX, .int nx, .int lt, .int sm, .int ex])), (aG, .inl (cG, 32, .inl (f_Sta_keepRegister p0 p1 g))), (aX, .inl (cX, 64, .inl sp))] A) (lv := [(0, .ref aS), (1, .int p0), (2, .int p1)]) (by decide) (Nat.le_of_ble_eq_true rfl) rfl ?_
  intro p e s m below meth c A ls hx hb hr hml hB hown hlocks hin hA hK hN hP hD hS hl
  have hown : s.vm.findClass "MappedProcessor$State" = some m.cls := hown
  refine lv_aload_n hx hb d_Sta_keepRegister_0 rfl (lv_at hl 0 rfl) ?_
  refine va_get (D := D) (ci := 9) (v := .ref aG) (C := "MappedProcessor$State") (T := T_Sta) (N := 6) hx hb hB iw_Sta hown hK hP 0 rfl rfl 0 (by decide) (hB _ mw_39) (fun _ h9 => h9) rfl d_Sta_keepRegister_1 ?_
  refine lv_iload_n hx hb d_Sta_keepRegister_4 rfl (lv_at hl 1 rfl) ?_
  refine lv_bipush (v := (31 : Int32)) hx hb d_Sta_keepRegister_5 (by decide) ?_
  refine lv_iand hx hb d_Sta_keepRegister_7 ?_
  refine lv_iload_n hx hb d_Sta_keepRegister_8 rfl (lv_at hl 2 rfl) ?_
  refine k_iast (j := (ix (p0 &&& (31 : Int32)))) hx hb hK hP hD hS 1 0 rfl rfl rfl (ix32 _) d_Sta_keepRegister_9 (fun H locs hP hD hS => ?_)
  have hP : va_P D kCl [(aS, .inr (9, [.ref aG, .ref aX, .int nx, .int lt, .int sm, .int ex])), (aG, .inl (cG, 32, .inl (upd g (ix (p0 &&& (31 : Int32))) p1))), (aX, .inl (cX, 64, .inl sp))] H := hP
  have hD : va_D A [(aS, .inr (9, [.ref aG, .ref aX, .int nx, .int lt, .int sm, .int ex])), (aG, .inl (cG, 32, .inl (upd g (ix (p0 &&& (31 : Int32))) p1))), (aX, .inl (cX, 64, .inl sp))] := hD
  have ef : f_Sta_keepRegister p0 p1 g = (upd g (ix (p0 &&& (31 : Int32))) p1) := rfl
  exact k_vret hx hb hr hlocks hK hP hD hS [0, 1, 2] rfl (by rw [ef] <;> rfl) d_Sta_keepRegister_10
/-! MappedProcessor$State.register(I)I -/
theorem d_Sta_register_0 : decode b_Sta_register 0 = .ok (.aload_n 0, 1) := by decide +kernel
theorem d_Sta_register_1 : decode b_Sta_register 1 = .ok (.getfield 9, 3) := by decide +kernel
theorem d_Sta_register_4 : decode b_Sta_register 4 = .ok (.iload_n 1, 1) := by decide +kernel
theorem d_Sta_register_5 : decode b_Sta_register 5 = .ok (.bipush 31, 2) := by decide +kernel
theorem d_Sta_register_7 : decode b_Sta_register 7 = .ok (.iand, 1) := by decide +kernel
theorem d_Sta_register_8 : decode b_Sta_register 8 = .ok (.iaload, 1) := by decide +kernel
theorem d_Sta_register_9 : decode b_Sta_register 9 = .ok (.ireturn, 1) := by decide +kernel
def f_Sta_register (p0 : Int32) (g : Nat → Int32) : Int32 :=
  (g (ix (p0 &&& (31 : Int32))))
set_option maxHeartbeats 4000000 in
set_option maxRecDepth 100000 in
theorem c_Sta_register (l : Launch) (D : va_G) (aS aG aX : Nat) (cG cX : ClassId) (g : Nat → Int32) (sp : Nat → Int32) (nx : Int32) (lt : Int32) (sm : Int32) (ex : Int32) (p0 : Int32) : kMi l y_Sta_register b_Sta_register 2 (some .int) 0 0 D kCl [(cG, .int), (cX, .int)] [.ref aS, .int p0] [(aS, .inr (9, [.ref aG, .ref aX, .int nx, .int lt, .int sm, .int ex])), (aG, .inl (cG, 32, .inl g)), (aX, .inl (cX, 64, .inl sp))] (f_Sta_register p0 g) [(aS, .inr (9, [.ref aG, .ref aX, .int nx, .int lt, .int sm, .int ex])), (aG, .inl (cG, 32, .inl g)), (aX, .inl (cX, 64, .inl sp))] := by
  refine k_entry (Qc := fun A => kQi D kCl [(cG, .int), (cX, .int)] (f_Sta_register p0 g) [(aS, .inr (9, [.ref aG, .ref aX, .int nx, .int lt, .int sm, .int ex])), (aG, .inl (cG, 32, .inl g)), (aX, .inl (cX, 64, .inl sp))] A) (lv := [(0, .ref aS), (1, .int p0)]) (by decide) (Nat.le_of_ble_eq_true rfl) rfl ?_
  intro p e s m below meth c A ls hx hb hr hml hB hown hlocks hin hA hK hN hP hD hS hl
  have hown : s.vm.findClass "MappedProcessor$State" = some m.cls := hown
  refine lv_aload_n hx hb d_Sta_register_0 rfl (lv_at hl 0 rfl) ?_
  refine va_get (D := D) (ci := 9) (v := .ref aG) (C := "MappedProcessor$State") (T := T_Sta) (N := 6) hx hb hB iw_Sta hown hK hP 0 rfl rfl 0 (by decide) (hB _ mw_39) (fun _ h9 => h9) rfl d_Sta_register_1 ?_
  refine lv_iload_n hx hb d_Sta_register_4 rfl (lv_at hl 1 rfl) ?_
  refine lv_bipush (v := (31 : Int32)) hx hb d_Sta_register_5 (by decide) ?_
  refine lv_iand hx hb d_Sta_register_7 ?_
  refine k_iald (j := (ix (p0 &&& (31 : Int32)))) hx hb hK hP 1 0 rfl rfl rfl (ix32 _) d_Sta_register_8 ?_
  have ef : f_Sta_register p0 g = (g (ix (p0 &&& (31 : Int32)))) := rfl
  exact k_iret hx hb hr hlocks hK hP hD hS [0, 1, 2] rfl rfl (by rw [ef] <;> rfl) d_Sta_register_9
/-! MappedProcessor$State.keep(II)V -/
theorem d_Sta_keep_0 : decode b_Sta_keep 0 = .ok (.aload_n 0, 1) := by decide +kernel
theorem d_Sta_keep_1 : decode b_Sta_keep 1 = .ok (.getfield 15, 3) := by decide +kernel
theorem d_Sta_keep_4 : decode b_Sta_keep 4 = .ok (.iload_n 1, 1) := by decide +kernel
theorem d_Sta_keep_5 : decode b_Sta_keep 5 = .ok (.bipush 63, 2) := by decide +kernel
theorem d_Sta_keep_7 : decode b_Sta_keep 7 = .ok (.iand, 1) := by decide +kernel
theorem d_Sta_keep_8 : decode b_Sta_keep 8 = .ok (.iload_n 2, 1) := by decide +kernel
theorem d_Sta_keep_9 : decode b_Sta_keep 9 = .ok (.iastore, 1) := by decide +kernel
theorem d_Sta_keep_10 : decode b_Sta_keep 10 = .ok (.return_, 1) := by decide +kernel
def f_Sta_keep (p0 : Int32) (p1 : Int32) (sp : Nat → Int32) : (Nat → Int32) :=
  (upd sp (ix (p0 &&& (63 : Int32))) p1)
set_option maxHeartbeats 4000000 in
set_option maxRecDepth 100000 in
theorem c_Sta_keep (l : Launch) (D : va_G) (aS aG aX : Nat) (cG cX : ClassId) (g : Nat → Int32) (sp : Nat → Int32) (nx : Int32) (lt : Int32) (sm : Int32) (ex : Int32) (p0 : Int32) (p1 : Int32) : kMv l y_Sta_keep b_Sta_keep 3 none 0 0 D kCl [(cG, .int), (cX, .int)] [.ref aS, .int p0, .int p1] [(aS, .inr (9, [.ref aG, .ref aX, .int nx, .int lt, .int sm, .int ex])), (aG, .inl (cG, 32, .inl g)), (aX, .inl (cX, 64, .inl sp))] [(aS, .inr (9, [.ref aG, .ref aX, .int nx, .int lt, .int sm, .int ex])), (aG, .inl (cG, 32, .inl g)), (aX, .inl (cX, 64, .inl (f_Sta_keep p0 p1 sp)))] := by
  refine k_entry (Qc := fun A => kQv D kCl [(cG, .int), (cX, .int)] [(aS, .inr (9, [.ref aG, .ref aX, .int nx, .int lt, .int sm, .int ex])), (aG, .inl (cG, 32, .inl g)), (aX, .inl (cX, 64, .inl (f_Sta_keep p0 p1 sp)))] A) (lv := [(0, .ref aS), (1, .int p0), (2, .int p1)]) (by decide) (Nat.le_of_ble_eq_true rfl) rfl ?_
  intro p e s m below meth c A ls hx hb hr hml hB hown hlocks hin hA hK hN hP hD hS hl
  have hown : s.vm.findClass "MappedProcessor$State" = some m.cls := hown
  refine lv_aload_n hx hb d_Sta_keep_0 rfl (lv_at hl 0 rfl) ?_
  refine va_get (D := D) (ci := 9) (v := .ref aX) (C := "MappedProcessor$State") (T := T_Sta) (N := 6) hx hb hB iw_Sta hown hK hP 0 rfl rfl 1 (by decide) (hB _ mw_40) (fun _ h9 => h9) rfl d_Sta_keep_1 ?_
  refine lv_iload_n hx hb d_Sta_keep_4 rfl (lv_at hl 1 rfl) ?_
  refine lv_bipush (v := (63 : Int32)) hx hb d_Sta_keep_5 (by decide) ?_
  refine lv_iand hx hb d_Sta_keep_7 ?_
  refine lv_iload_n hx hb d_Sta_keep_8 rfl (lv_at hl 2 rfl) ?_
  refine k_iast (j := (ix (p0 &&& (63 : Int32)))) hx hb hK hP hD hS 2 1 rfl rfl rfl (ix64 _) d_Sta_keep_9 (fun H locs hP hD hS => ?_)
  have hP : va_P D kCl [(aS, .inr (9, [.ref aG, .ref aX, .int nx, .int lt, .int sm, .int ex])), (aG, .inl (cG, 32, .inl g)), (aX, .inl (cX, 64, .inl (upd sp (ix (p0 &&& (63 : Int32))) p1)))] H := hP
  have hD : va_D A [(aS, .inr (9, [.ref aG, .ref aX, .int nx, .int lt, .int sm, .int ex])), (aG, .inl (cG, 32, .inl g)), (aX, .inl (cX, 64, .inl (upd sp (ix (p0 &&& (63 : Int32))) p1)))] := hD
  have ef : f_Sta_keep p0 p1 sp = (upd sp (ix (p0 &&& (63 : Int32))) p1) := rfl
  exact k_vret hx hb hr hlocks hK hP hD hS [0, 1, 2] rfl (by rw [ef] <;> rfl) d_Sta_keep_10
/-! MappedProcessor$State.read(I)I -/
theorem d_Sta_read_0 : decode b_Sta_read 0 = .ok (.aload_n 0, 1) := by decide +kernel
theorem d_Sta_read_1 : decode b_Sta_read 1 = .ok (.getfield 15, 3) := by decide +kernel
theorem d_Sta_read_4 : decode b_Sta_read 4 = .ok (.iload_n 1, 1) := by decide +kernel
theorem d_Sta_read_5 : decode b_Sta_read 5 = .ok (.bipush 63, 2) := by decide +kernel
theorem d_Sta_read_7 : decode b_Sta_read 7 = .ok (.iand, 1) := by decide +kernel
theorem d_Sta_read_8 : decode b_Sta_read 8 = .ok (.iaload, 1) := by decide +kernel
theorem d_Sta_read_9 : decode b_Sta_read 9 = .ok (.ireturn, 1) := by decide +kernel
def f_Sta_read (p0 : Int32) (sp : Nat → Int32) : Int32 :=
  (sp (ix (p0 &&& (63 : Int32))))
set_option maxHeartbeats 4000000 in
set_option maxRecDepth 100000 in
theorem c_Sta_read (l : Launch) (D : va_G) (aS aG aX : Nat) (cG cX : ClassId) (g : Nat → Int32) (sp : Nat → Int32) (nx : Int32) (lt : Int32) (sm : Int32) (ex : Int32) (p0 : Int32) : kMi l y_Sta_read b_Sta_read 2 (some .int) 0 0 D kCl [(cG, .int), (cX, .int)] [.ref aS, .int p0] [(aS, .inr (9, [.ref aG, .ref aX, .int nx, .int lt, .int sm, .int ex])), (aG, .inl (cG, 32, .inl g)), (aX, .inl (cX, 64, .inl sp))] (f_Sta_read p0 sp) [(aS, .inr (9, [.ref aG, .ref aX, .int nx, .int lt, .int sm, .int ex])), (aG, .inl (cG, 32, .inl g)), (aX, .inl (cX, 64, .inl sp))] := by
  refine k_entry (Qc := fun A => kQi D kCl [(cG, .int), (cX, .int)] (f_Sta_read p0 sp) [(aS, .inr (9, [.ref aG, .ref aX, .int nx, .int lt, .int sm, .int ex])), (aG, .inl (cG, 32, .inl g)), (aX, .inl (cX, 64, .inl sp))] A) (lv := [(0, .ref aS), (1, .int p0)]) (by decide) (Nat.le_of_ble_eq_true rfl) rfl ?_
  intro p e s m below meth c A ls hx hb hr hml hB hown hlocks hin hA hK hN hP hD hS hl
  have hown : s.vm.findClass "MappedProcessor$State" = some m.cls := hown
  refine lv_aload_n hx hb d_Sta_read_0 rfl (lv_at hl 0 rfl) ?_
  refine va_get (D := D) (ci := 9) (v := .ref aX) (C := "MappedProcessor$State") (T := T_Sta) (N := 6) hx hb hB iw_Sta hown hK hP 0 rfl rfl 1 (by decide) (hB _ mw_40) (fun _ h9 => h9) rfl d_Sta_read_1 ?_
  refine lv_iload_n hx hb d_Sta_read_4 rfl (lv_at hl 1 rfl) ?_
  refine lv_bipush (v := (63 : Int32)) hx hb d_Sta_read_5 (by decide) ?_
  refine lv_iand hx hb d_Sta_read_7 ?_
  refine k_iald (j := (ix (p0 &&& (63 : Int32)))) hx hb hK hP 2 1 rfl rfl rfl (ix64 _) d_Sta_read_8 ?_
  have ef : f_Sta_read p0 sp = (sp (ix (p0 &&& (63 : Int32)))) := rfl
  exact k_iret hx hb hr hlocks hK hP hD hS [0, 1, 2] rfl rfl (by rw [ef] <;> rfl) d_Sta_read_9
/-! MappedProcessor$State.exceptions()I -/
theorem d_Sta_exceptions_0 : decode b_Sta_exceptions 0 = .ok (.aload_n 0, 1) := by decide +kernel
theorem d_Sta_exceptions_1 : decode b_Sta_exceptions 1 = .ok (.getfield 29, 3) := by decide +kernel
theorem d_Sta_exceptions_4 : decode b_Sta_exceptions 4 = .ok (.ireturn, 1) := by decide +kernel
def f_Sta_exceptions (ex : Int32) : Int32 :=
  ex
set_option maxHeartbeats 4000000 in
set_option maxRecDepth 100000 in
theorem c_Sta_exceptions (l : Launch) (D : va_G) (aS aG aX : Nat) (cG cX : ClassId) (g : Nat → Int32) (sp : Nat → Int32) (nx : Int32) (lt : Int32) (sm : Int32) (ex : Int32) : kMi l y_Sta_exceptions b_Sta_exceptions 1 (some .int) 0 0 D kCl [(cG, .int), (cX, .int)] [.ref aS] [(aS, .inr (9, [.ref aG, .ref aX, .int nx, .int lt, .int sm, .int ex])), (aG, .inl (cG, 32, .inl g)), (aX, .inl (cX, 64, .inl sp))] (f_Sta_exceptions ex) [(aS, .inr (9, [.ref aG, .ref aX, .int nx, .int lt, .int sm, .int ex])), (aG, .inl (cG, 32, .inl g)), (aX, .inl (cX, 64, .inl sp))] := by
  refine k_entry (Qc := fun A => kQi D kCl [(cG, .int), (cX, .int)] (f_Sta_exceptions ex) [(aS, .inr (9, [.ref aG, .ref aX, .int nx, .int lt, .int sm, .int ex])), (aG, .inl (cG, 32, .inl g)), (aX, .inl (cX, 64, .inl sp))] A) (lv := [(0, .ref aS)]) (by decide) (Nat.le_of_ble_eq_true rfl) rfl ?_
  intro p e s m below meth c A ls hx hb hr hml hB hown hlocks hin hA hK hN hP hD hS hl
  have hown : s.vm.findClass "MappedProcessor$State" = some m.cls := hown
  refine lv_aload_n hx hb d_Sta_exceptions_0 rfl (lv_at hl 0 rfl) ?_
  refine va_get (D := D) (ci := 9) (v := .int ex) (C := "MappedProcessor$State") (T := T_Sta) (N := 6) hx hb hB iw_Sta hown hK hP 0 rfl rfl 5 (by decide) (hB _ mw_44) (fun _ h9 => h9) rfl d_Sta_exceptions_1 ?_
  have ef : f_Sta_exceptions ex = ex := rfl
  exact k_iret hx hb hr hlocks hK hP hD hS [0, 1, 2] rfl rfl (by rw [ef] <;> rfl) d_Sta_exceptions_4
/-! MappedProcessor$State.begin()V -/
theorem d_Sta_begin_0 : decode b_Sta_begin 0 = .ok (.aload_n 0, 1) := by decide +kernel
theorem d_Sta_begin_1 : decode b_Sta_begin 1 = .ok (.dup, 1) := by decide +kernel
theorem d_Sta_begin_2 : decode b_Sta_begin 2 = .ok (.getfield 26, 3) := by decide +kernel
theorem d_Sta_begin_5 : decode b_Sta_begin 5 = .ok (.iconst 1, 1) := by decide +kernel
theorem d_Sta_begin_6 : decode b_Sta_begin 6 = .ok (.iadd, 1) := by decide +kernel
theorem d_Sta_begin_7 : decode b_Sta_begin 7 = .ok (.putfield 26, 3) := by decide +kernel
theorem d_Sta_begin_10 : decode b_Sta_begin 10 = .ok (.aload_n 0, 1) := by decide +kernel
theorem d_Sta_begin_11 : decode b_Sta_begin 11 = .ok (.aload_n 0, 1) := by decide +kernel
theorem d_Sta_begin_12 : decode b_Sta_begin 12 = .ok (.getfield 15, 3) := by decide +kernel
theorem d_Sta_begin_15 : decode b_Sta_begin 15 = .ok (.iconst 0, 1) := by decide +kernel
theorem d_Sta_begin_16 : decode b_Sta_begin 16 = .ok (.iaload, 1) := by decide +kernel
theorem d_Sta_begin_17 : decode b_Sta_begin 17 = .ok (.iconst 4, 1) := by decide +kernel
theorem d_Sta_begin_18 : decode b_Sta_begin 18 = .ok (.iadd, 1) := by decide +kernel
theorem d_Sta_begin_19 : decode b_Sta_begin 19 = .ok (.putfield 32, 3) := by decide +kernel
theorem d_Sta_begin_22 : decode b_Sta_begin 22 = .ok (.return_, 1) := by decide +kernel
def f_Sta_begin (sp : Nat → Int32) (sm : Int32) : Int32 × Int32 :=
  (((sp 0) + (4 : Int32)), (sm + (1 : Int32)))
set_option maxHeartbeats 4000000 in
set_option maxRecDepth 100000 in
theorem c_Sta_begin (l : Launch) (D : va_G) (aS aG aX : Nat) (cG cX : ClassId) (g : Nat → Int32) (sp : Nat → Int32) (nx : Int32) (lt : Int32) (sm : Int32) (ex : Int32) : kMv l y_Sta_begin b_Sta_begin 1 none 0 0 D kCl [(cG, .int), (cX, .int)] [.ref aS] [(aS, .inr (9, [.ref aG, .ref aX, .int nx, .int lt, .int sm, .int ex])), (aG, .inl (cG, 32, .inl g)), (aX, .inl (cX, 64, .inl sp))] [(aS, .inr (9, [.ref aG, .ref aX, .int (f_Sta_begin sp sm).1, .int lt, .int (f_Sta_begin sp sm).2, .int ex])), (aG, .inl (cG, 32, .inl g)), (aX, .inl (cX, 64, .inl sp))] := by
  refine k_entry (Qc := fun A => kQv D kCl [(cG, .int), (cX, .int)] [(aS, .inr (9, [.ref aG, .ref aX, .int (f_Sta_begin sp sm).1, .int lt, .int (f_Sta_begin sp sm).2, .int ex])), (aG, .inl (cG, 32, .inl g)), (aX, .inl (cX, 64, .inl sp))] A) (lv := [(0, .ref aS)]) (by decide) (Nat.le_of_ble_eq_true rfl) rfl ?_
  intro p e s m below meth c A ls hx hb hr hml hB hown hlocks hin hA hK hN hP hD hS hl
  have hown : s.vm.findClass "MappedProcessor$State" = some m.cls := hown
  refine lv_aload_n hx hb d_Sta_begin_0 rfl (lv_at hl 0 rfl) ?_
  refine lv_dup hx hb d_Sta_begin_1 rfl ?_
  refine va_get (D := D) (ci := 9) (v := .int sm) (C := "MappedProcessor$State") (T := T_Sta) (N := 6) hx hb hB iw_Sta hown hK hP 0 rfl rfl 4 (by decide) (hB _ mw_43) (fun _ h9 => h9) rfl d_Sta_begin_2 ?_
  refine lv_iconst (v := (1 : Int32)) hx hb d_Sta_begin_5 (by decide) ?_
  refine lv_iadd hx hb d_Sta_begin_6 ?_
  refine va_put (D := D) (ci := 9) (v := .int (sm + (1 : Int32))) (ty := .int) (C := "MappedProcessor$State") (T := T_Sta) (N := 6) hx hb hB iw_Sta ty_Sta ty_Sta_ok nm_Sta hown hK hP hD hS 0 rfl rfl 4 (by decide) (hB _ mw_43) (fun _ h9 => h9) rfl (by decide +kernel) rfl rfl (Nat.le_of_ble_eq_true rfl) d_Sta_begin_7 (fun H locs hP hD hS => ?_)
  have hP : va_P D kCl [(aS, .inr (9, [.ref aG, .ref aX, .int nx, .int lt, .int (sm + (1 : Int32)), .int ex])), (aG, .inl (cG, 32, .inl g)), (aX, .inl (cX, 64, .inl sp))] H := hP
  have hD : va_D A [(aS, .inr (9, [.ref aG, .ref aX, .int nx, .int lt, .int (sm + (1 : Int32)), .int ex])), (aG, .inl (cG, 32, .inl g)), (aX, .inl (cX, 64, .inl sp))] := hD
  refine lv_aload_n hx hb d_Sta_begin_10 rfl (lv_at hl 0 rfl) ?_
  refine lv_aload_n hx hb d_Sta_begin_11 rfl (lv_at hl 0 rfl) ?_
  refine va_get (D := D) (ci := 9) (v := .ref aX) (C := "MappedProcessor$State") (T := T_Sta) (N := 6) hx hb hB iw_Sta hown hK hP 0 rfl rfl 1 (by decide) (hB _ mw_40) (fun _ h9 => h9) rfl d_Sta_begin_12 ?_
  refine lv_iconst (v := (0 : Int32)) hx hb d_Sta_begin_15 (by decide) ?_
  refine k_iald (j := 0) hx hb hK hP 2 1 rfl rfl (by decide) (by unfold vp_in; decide) d_Sta_begin_16 ?_
  refine lv_iconst (v := (4 : Int32)) hx hb d_Sta_begin_17 (by decide) ?_
  refine lv_iadd hx hb d_Sta_begin_18 ?_
  refine va_put (D := D) (ci := 9) (v := .int ((sp 0) + (4 : Int32))) (ty := .int) (C := "MappedProcessor$State") (T := T_Sta) (N := 6) hx hb hB iw_Sta ty_Sta ty_Sta_ok nm_Sta hown hK hP hD hS 0 rfl rfl 2 (by decide) (hB _ mw_41) (fun _ h9 => h9) rfl (by decide +kernel) rfl rfl (Nat.le_of_ble_eq_true rfl) d_Sta_begin_19 (fun H locs hP hD hS => ?_)
  have hP : va_P D kCl [(aS, .inr (9, [.ref aG, .ref aX, .int ((sp 0) + (4 : Int32)), .int lt, .int (sm + (1 : Int32)), .int ex])), (aG, .inl (cG, 32, .inl g)), (aX, .inl (cX, 64, .inl sp))] H := hP
  have hD : va_D A [(aS, .inr (9, [.ref aG, .ref aX, .int ((sp 0) + (4 : Int32)), .int lt, .int (sm + (1 : Int32)), .int ex])), (aG, .inl (cG, 32, .inl g)), (aX, .inl (cX, 64, .inl sp))] := hD
  have ef : f_Sta_begin sp sm = (((sp 0) + (4 : Int32)), (sm + (1 : Int32))) := rfl
  exact k_vret hx hb hr hlocks hK hP hD hS [0, 1, 2] rfl (by rw [ef] <;> rfl) d_Sta_begin_22
/-! MappedProcessor$State.has(II)Z -/
theorem d_Sta_has_0 : decode b_Sta_has 0 = .ok (.aload_n 0, 1) := by decide +kernel
theorem d_Sta_has_1 : decode b_Sta_has 1 = .ok (.getfield 15, 3) := by decide +kernel
theorem d_Sta_has_4 : decode b_Sta_has 4 = .ok (.iload_n 1, 1) := by decide +kernel
theorem d_Sta_has_5 : decode b_Sta_has 5 = .ok (.bipush 63, 2) := by decide +kernel
theorem d_Sta_has_7 : decode b_Sta_has 7 = .ok (.iand, 1) := by decide +kernel
theorem d_Sta_has_8 : decode b_Sta_has 8 = .ok (.iaload, 1) := by decide +kernel
theorem d_Sta_has_9 : decode b_Sta_has 9 = .ok (.iload_n 2, 1) := by decide +kernel
theorem d_Sta_has_10 : decode b_Sta_has 10 = .ok (.iand, 1) := by decide +kernel
theorem d_Sta_has_11 : decode b_Sta_has 11 = .ok (.ifCond .eq 7, 3) := by decide +kernel
theorem d_Sta_has_14 : decode b_Sta_has 14 = .ok (.iconst 1, 1) := by decide +kernel
theorem d_Sta_has_15 : decode b_Sta_has 15 = .ok (.goto 4, 3) := by decide +kernel
theorem d_Sta_has_18 : decode b_Sta_has 18 = .ok (.iconst 0, 1) := by decide +kernel
theorem d_Sta_has_19 : decode b_Sta_has 19 = .ok (.ireturn, 1) := by decide +kernel
def f_Sta_has (p0 : Int32) (p1 : Int32) (sp : Nat → Int32) : Int32 :=
  (if ((sp (ix (p0 &&& (63 : Int32)))) &&& p1) = (0 : Int32) then (0 : Int32) else (1 : Int32))
set_option maxHeartbeats 4000000 in
set_option maxRecDepth 100000 in
theorem ib_Sta_has (p0 : Int32) (p1 : Int32) (sp : Nat → Int32) : isB (f_Sta_has p0 p1 sp) := by
  unfold f_Sta_has
  try dsimp only
  repeat' (first | refine ib_ite ?_ ?_ | refine ib_ite0 ?_ ?_ | with_reducible exact ib0 | with_reducible exact ib1 | (dsimp only; first | exact ib0 | exact ib1))
theorem nb_Sta_has (p0 : Int32) (p1 : Int32) (sp : Nat → Int32) : narrow .boolean (.int (f_Sta_has p0 p1 sp)) = .int (f_Sta_has p0 p1 sp) := nb_of (ib_Sta_has p0 p1 sp)
set_option maxHeartbeats 4000000 in
set_option maxRecDepth 100000 in
theorem c_Sta_has (l : Launch) (D : va_G) (aS aG aX : Nat) (cG cX : ClassId) (g : Nat → Int32) (sp : Nat → Int32) (nx : Int32) (lt : Int32) (sm : Int32) (ex : Int32) (p0 : Int32) (p1 : Int32) : kMi l y_Sta_has b_Sta_has 3 (some .boolean) 0 0 D kCl [(cG, .int), (cX, .int)] [.ref aS, .int p0, .int p1] [(aS, .inr (9, [.ref aG, .ref aX, .int nx, .int lt, .int sm, .int ex])), (aG, .inl (cG, 32, .inl g)), (aX, .inl (cX, 64, .inl sp))] (f_Sta_has p0 p1 sp) [(aS, .inr (9, [.ref aG, .ref aX, .int nx, .int lt, .int sm, .int ex])), (aG, .inl (cG, 32, .inl g)), (aX, .inl (cX, 64, .inl sp))] := by
  refine k_entry (Qc := fun A => kQi D kCl [(cG, .int), (cX, .int)] (f_Sta_has p0 p1 sp) [(aS, .inr (9, [.ref aG, .ref aX, .int nx, .int lt, .int sm, .int ex])), (aG, .inl (cG, 32, .inl g)), (aX, .inl (cX, 64, .inl sp))] A) (lv := [(0, .ref aS), (1, .int p0), (2, .int p1)]) (by decide) (Nat.le_of_ble_eq_true rfl) rfl ?_
  intro p e s m below meth c A ls hx hb hr hml hB hown hlocks hin hA hK hN hP hD hS hl
  have hown : s.vm.findClass "MappedProcessor$State" = some m.cls := hown
  refine lv_aload_n hx hb d_Sta_has_0 rfl (lv_at hl 0 rfl) ?_
  refine va_get (D := D) (ci := 9) (v := .ref aX) (C := "MappedProcessor$State") (T := T_Sta) (N := 6) hx hb hB iw_Sta hown hK hP 0 rfl rfl 1 (by decide) (hB _ mw_40) (fun _ h9 => h9) rfl d_Sta_has_1 ?_
  refine lv_iload_n hx hb d_Sta_has_4 rfl (lv_at hl 1 rfl) ?_
  refine lv_bipush (v := (63 : Int32)) hx hb d_Sta_has_5 (by decide) ?_
  refine lv_iand hx hb d_Sta_has_7 ?_
  refine k_iald (j := (ix (p0 &&& (63 : Int32)))) hx hb hK hP 2 1 rfl rfl rfl (ix64 _) d_Sta_has_8 ?_
  refine lv_iload_n hx hb d_Sta_has_9 rfl (lv_at hl 2 rfl) ?_
  refine lv_iand hx hb d_Sta_has_10 ?_
  refine k_join2 (c0 := ((sp (ix (p0 &&& (63 : Int32)))) &&& p1) = (0 : Int32)) (x1 := (0 : Int32)) (x2 := (1 : Int32)) (rest := []) 19 ?_ (fun k2 k3 => ?_)
  rotate_left
  · refine lv_if_eq (tgt := 18) hx hb d_Sta_has_11 (by decide) (fun (h1 : ((sp (ix (p0 &&& (63 : Int32)))) &&& p1) = (0 : Int32)) => ?_) (fun (h1 : ¬ ((sp (ix (p0 &&& (63 : Int32)))) &&& p1) = (0 : Int32)) => ?_)
    · refine lv_iconst (v := (0 : Int32)) hx hb d_Sta_has_18 (by decide) ?_
      exact k2 h1
    · refine lv_iconst (v := (1 : Int32)) hx hb d_Sta_has_14 (by decide) ?_
      refine lv_goto (tgt := 19) hx hb d_Sta_has_15 (by decide) ?_
      exact k3 h1
  have ef : f_Sta_has p0 p1 sp = (if ((sp (ix (p0 &&& (63 : Int32)))) &&& p1) = (0 : Int32) then (0 : Int32) else (1 : Int32)) := rfl
  exact k_zret hx hb hr hlocks hK hP hD hS [0, 1, 2] rfl rfl (by rw [ef] <;> rfl) (nb_ite nb0 nb1) d_Sta_has_19
/-! MappedProcessor$State.raise(II)V -/
theorem d_Sta_raise_0 : decode b_Sta_raise 0 = .ok (.aload_n 0, 1) := by decide +kernel
theorem d_Sta_raise_1 : decode b_Sta_raise 1 = .ok (.getfield 15, 3) := by decide +kernel
theorem d_Sta_raise_4 : decode b_Sta_raise 4 = .ok (.bipush 6, 2) := by decide +kernel
theorem d_Sta_raise_6 : decode b_Sta_raise 6 = .ok (.aload_n 0, 1) := by decide +kernel
theorem d_Sta_raise_7 : decode b_Sta_raise 7 = .ok (.getfield 15, 3) := by decide +kernel
theorem d_Sta_raise_10 : decode b_Sta_raise 10 = .ok (.iconst 0, 1) := by decide +kernel
theorem d_Sta_raise_11 : decode b_Sta_raise 11 = .ok (.iaload, 1) := by decide +kernel
theorem d_Sta_raise_12 : decode b_Sta_raise 12 = .ok (.iastore, 1) := by decide +kernel
theorem d_Sta_raise_13 : decode b_Sta_raise 13 = .ok (.aload_n 0, 1) := by decide +kernel
theorem d_Sta_raise_14 : decode b_Sta_raise 14 = .ok (.getfield 15, 3) := by decide +kernel
theorem d_Sta_raise_17 : decode b_Sta_raise 17 = .ok (.bipush 7, 2) := by decide +kernel
theorem d_Sta_raise_19 : decode b_Sta_raise 19 = .ok (.aload_n 0, 1) := by decide +kernel
theorem d_Sta_raise_20 : decode b_Sta_raise 20 = .ok (.getfield 15, 3) := by decide +kernel
theorem d_Sta_raise_23 : decode b_Sta_raise 23 = .ok (.iconst 1, 1) := by decide +kernel
theorem d_Sta_raise_24 : decode b_Sta_raise 24 = .ok (.iaload, 1) := by decide +kernel
theorem d_Sta_raise_25 : decode b_Sta_raise 25 = .ok (.ldc 35, 2) := by decide +kernel
theorem d_Sta_raise_27 : decode b_Sta_raise 27 = .ok (.iand, 1) := by decide +kernel
theorem d_Sta_raise_28 : decode b_Sta_raise 28 = .ok (.iload_n 2, 1) := by decide +kernel
theorem d_Sta_raise_29 : decode b_Sta_raise 29 = .ok (.iadd, 1) := by decide +kernel
theorem d_Sta_raise_30 : decode b_Sta_raise 30 = .ok (.iastore, 1) := by decide +kernel
theorem d_Sta_raise_31 : decode b_Sta_raise 31 = .ok (.aload_n 0, 1) := by decide +kernel
theorem d_Sta_raise_32 : decode b_Sta_raise 32 = .ok (.getfield 15, 3) := by decide +kernel
theorem d_Sta_raise_35 : decode b_Sta_raise 35 = .ok (.iconst 1, 1) := by decide +kernel
theorem d_Sta_raise_36 : decode b_Sta_raise 36 = .ok (.dup2, 1) := by decide +kernel
theorem d_Sta_raise_37 : decode b_Sta_raise 37 = .ok (.iaload, 1) := by decide +kernel
theorem d_Sta_raise_38 : decode b_Sta_raise 38 = .ok (.ldc 36, 2) := by decide +kernel
theorem d_Sta_raise_40 : decode b_Sta_raise 40 = .ok (.iand, 1) := by decide +kernel
theorem d_Sta_raise_41 : decode b_Sta_raise 41 = .ok (.iastore, 1) := by decide +kernel
theorem d_Sta_raise_42 : decode b_Sta_raise 42 = .ok (.aload_n 0, 1) := by decide +kernel
theorem d_Sta_raise_43 : decode b_Sta_raise 43 = .ok (.iload_n 1, 1) := by decide +kernel
theorem d_Sta_raise_44 : decode b_Sta_raise 44 = .ok (.putfield 32, 3) := by decide +kernel
theorem d_Sta_raise_47 : decode b_Sta_raise 47 = .ok (.aload_n 0, 1) := by decide +kernel
theorem d_Sta_raise_48 : decode b_Sta_raise 48 = .ok (.iload_n 1, 1) := by decide +kernel
theorem d_Sta_raise_49 : decode b_Sta_raise 49 = .ok (.putfield 22, 3) := by decide +kernel
theorem d_Sta_raise_52 : decode b_Sta_raise 52 = .ok (.aload_n 0, 1) := by decide +kernel
theorem d_Sta_raise_53 : decode b_Sta_raise 53 = .ok (.dup, 1) := by decide +kernel
theorem d_Sta_raise_54 : decode b_Sta_raise 54 = .ok (.getfield 29, 3) := by decide +kernel
theorem d_Sta_raise_57 : decode b_Sta_raise 57 = .ok (.iconst 1, 1) := by decide +kernel
theorem d_Sta_raise_58 : decode b_Sta_raise 58 = .ok (.iadd, 1) := by decide +kernel
theorem d_Sta_raise_59 : decode b_Sta_raise 59 = .ok (.putfield 29, 3) := by decide +kernel
theorem d_Sta_raise_62 : decode b_Sta_raise 62 = .ok (.return_, 1) := by decide +kernel
def f_Sta_raise (p0 : Int32) (p1 : Int32) (sp : Nat → Int32) (ex : Int32) : (Nat → Int32) × Int32 × Int32 × Int32 :=
  ((upd (upd (upd sp 6 (sp 0)) 7 ((((upd sp 6 (sp 0)) 1) &&& (65535 : Int32)) + p1)) 1 (((upd (upd sp 6 (sp 0)) 7 ((((upd sp 6 (sp 0)) 1) &&& (65535 : Int32)) + p1)) 1) &&& (-49201 : Int32))), p0, p0, (ex + (1 : Int32)))
set_option maxHeartbeats 4000000 in
set_option maxRecDepth 100000 in
theorem c_Sta_raise (l : Launch) (D : va_G) (aS aG aX : Nat) (cG cX : ClassId) (g : Nat → Int32) (sp : Nat → Int32) (nx : Int32) (lt : Int32) (sm : Int32) (ex : Int32) (p0 : Int32) (p1 : Int32) : kMv l y_Sta_raise b_Sta_raise 3 none 0 0 D kCl [(cG, .int), (cX, .int)] [.ref aS, .int p0, .int p1] [(aS, .inr (9, [.ref aG, .ref aX, .int nx, .int lt, .int sm, .int ex])), (aG, .inl (cG, 32, .inl g)), (aX, .inl (cX, 64, .inl sp))] [(aS, .inr (9, [.ref aG, .ref aX, .int (f_Sta_raise p0 p1 sp ex).2.1, .int (f_Sta_raise p0 p1 sp ex).2.2.1, .int sm, .int (f_Sta_raise p0 p1 sp ex).2.2.2])), (aG, .inl (cG, 32, .inl g)), (aX, .inl (cX, 64, .inl (f_Sta_raise p0 p1 sp ex).1))] := by
  refine k_entry (Qc := fun A => kQv D kCl [(cG, .int), (cX, .int)] [(aS, .inr (9, [.ref aG, .ref aX, .int (f_Sta_raise p0 p1 sp ex).2.1, .int (f_Sta_raise p0 p1 sp ex).2.2.1, .int sm, .int (f_Sta_raise p0 p1 sp ex).2.2.2])), (aG, .inl (cG, 32, .inl g)), (aX, .inl (cX, 64, .inl (f_Sta_raise p0 p1 sp ex).1))] A) (lv := [(0, .ref aS), (1, .int p0), (2, .int p1)]) (by decide) (Nat.le_of_ble_eq_true rfl) rfl ?_
  intro p e s m below meth c A ls hx hb hr hml hB hown hlocks hin hA hK hN hP hD hS hl
  have hown : s.vm.findClass "MappedProcessor$State" = some m.cls := hown
  refine lv_aload_n hx hb d_Sta_raise_0 rfl (lv_at hl 0 rfl) ?_
  refine va_get (D := D) (ci := 9) (v := .ref aX) (C := "MappedProcessor$State") (T := T_Sta) (N := 6) hx hb hB iw_Sta hown hK hP 0 rfl rfl 1 (by decide) (hB _ mw_40) (fun _ h9 => h9) rfl d_Sta_raise_1 ?_
  refine lv_bipush (v := (6 : Int32)) hx hb d_Sta_raise_4 (by decide) ?_
  refine lv_aload_n hx hb d_Sta_raise_6 rfl (lv_at hl 0 rfl) ?_
  refine va_get (D := D) (ci := 9) (v := .ref aX) (C := "MappedProcessor$State") (T := T_Sta) (N := 6) hx hb hB iw_Sta hown hK hP 0 rfl rfl 1 (by decide) (hB _ mw_40) (fun _ h9 => h9) rfl d_Sta_raise_7 ?_
  refine lv_iconst (v := (0 : Int32)) hx hb d_Sta_raise_10 (by decide) ?_
  refine k_iald (j := 0) hx hb hK hP 2 1 rfl rfl (by decide) (by unfold vp_in; decide) d_Sta_raise_11 ?_
  refine k_iast (j := 6) hx hb hK hP hD hS 2 1 rfl rfl (by decide) (by unfold vp_in; decide) d_Sta_raise_12 (fun H locs hP hD hS => ?_)
  have hP : va_P D kCl [(aS, .inr (9, [.ref aG, .ref aX, .int nx, .int lt, .int sm, .int ex])), (aG, .inl (cG, 32, .inl g)), (aX, .inl (cX, 64, .inl (upd sp 6 (sp 0))))] H := hP
  have hD : va_D A [(aS, .inr (9, [.ref aG, .ref aX, .int nx, .int lt, .int sm, .int ex])), (aG, .inl (cG, 32, .inl g)), (aX, .inl (cX, 64, .inl (upd sp 6 (sp 0))))] := hD
  refine lv_aload_n hx hb d_Sta_raise_13 rfl (lv_at hl 0 rfl) ?_
  refine va_get (D := D) (ci := 9) (v := .ref aX) (C := "MappedProcessor$State") (T := T_Sta) (N := 6) hx hb hB iw_Sta hown hK hP 0 rfl rfl 1 (by decide) (hB _ mw_40) (fun _ h9 => h9) rfl d_Sta_raise_14 ?_
  refine lv_bipush (v := (7 : Int32)) hx hb d_Sta_raise_17 (by decide) ?_
  refine lv_aload_n hx hb d_Sta_raise_19 rfl (lv_at hl 0 rfl) ?_
  refine va_get (D := D) (ci := 9) (v := .ref aX) (C := "MappedProcessor$State") (T := T_Sta) (N := 6) hx hb hB iw_Sta hown hK hP 0 rfl rfl 1 (by decide) (hB _ mw_40) (fun _ h9 => h9) rfl d_Sta_raise_20 ?_
  refine lv_iconst (v := (1 : Int32)) hx hb d_Sta_raise_23 (by decide) ?_
  refine k_iald (j := 1) hx hb hK hP 2 1 rfl rfl (by decide) (by unfold vp_in; decide) d_Sta_raise_24 ?_
  refine lv_ldc (v := (65535 : Int32)) hx hb hown (hB _ mw_358) d_Sta_raise_25 ?_
  refine lv_iand hx hb d_Sta_raise_27 ?_
  refine lv_iload_n hx hb d_Sta_raise_28 rfl (lv_at hl 2 rfl) ?_
  refine lv_iadd hx hb d_Sta_raise_29 ?_
  refine k_iast (j := 7) hx hb hK hP hD hS 2 1 rfl rfl (by decide) (by unfold vp_in; decide) d_Sta_raise_30 (fun H locs hP hD hS => ?_)
  have hP : va_P D kCl [(aS, .inr (9, [.ref aG, .ref aX, .int nx, .int lt, .int sm, .int ex])), (aG, .inl (cG, 32, .inl g)), (aX, .inl (cX, 64, .inl (upd (upd sp 6 (sp 0)) 7 ((((upd sp 6 (sp 0)) 1) &&& (65535 : Int32)) + p1))))] H := hP
  have hD : va_D A [(aS, .inr (9, [.ref aG, .ref aX, .int nx, .int lt, .int sm, .int ex])), (aG, .inl (cG, 32, .inl g)), (aX, .inl (cX, 64, .inl (upd (upd sp 6 (sp 0)) 7 ((((upd sp 6 (sp 0)) 1) &&& (65535 : Int32)) + p1))))] := hD
  refine lv_aload_n hx hb d_Sta_raise_31 rfl (lv_at hl 0 rfl) ?_
  refine va_get (D := D) (ci := 9) (v := .ref aX) (C := "MappedProcessor$State") (T := T_Sta) (N := 6) hx hb hB iw_Sta hown hK hP 0 rfl rfl 1 (by decide) (hB _ mw_40) (fun _ h9 => h9) rfl d_Sta_raise_32 ?_
  refine lv_iconst (v := (1 : Int32)) hx hb d_Sta_raise_35 (by decide) ?_
  refine lv_dup2_11 hx hb d_Sta_raise_36 rfl rfl ?_
  refine k_iald (j := 1) hx hb hK hP 2 1 rfl rfl (by decide) (by unfold vp_in; decide) d_Sta_raise_37 ?_
  refine lv_ldc (v := (-49201 : Int32)) hx hb hown (hB _ mw_359) d_Sta_raise_38 ?_
  refine lv_iand hx hb d_Sta_raise_40 ?_
  refine k_iast (j := 1) hx hb hK hP hD hS 2 1 rfl rfl (by decide) (by unfold vp_in; decide) d_Sta_raise_41 (fun H locs hP hD hS => ?_)
  have hP : va_P D kCl [(aS, .inr (9, [.ref aG, .ref aX, .int nx, .int lt, .int sm, .int ex])), (aG, .inl (cG, 32, .inl g)), (aX, .inl (cX, 64, .inl (upd (upd (upd sp 6 (sp 0)) 7 ((((upd sp 6 (sp 0)) 1) &&& (65535 : Int32)) + p1)) 1 (((upd (upd sp 6 (sp 0)) 7 ((((upd sp 6 (sp 0)) 1) &&& (65535 : Int32)) + p1)) 1) &&& (-49201 : Int32)))))] H := hP
  have hD : va_D A [(aS, .inr (9, [.ref aG, .ref aX, .int nx, .int lt, .int sm, .int ex])), (aG, .inl (cG, 32, .inl g)), (aX, .inl (cX, 64, .inl (upd (upd (upd sp 6 (sp 0)) 7 ((((upd sp 6 (sp 0)) 1) &&& (65535 : Int32)) + p1)) 1 (((upd (upd sp 6 (sp 0)) 7 ((((upd sp 6 (sp 0)) 1) &&& (65535 : Int32)) + p1)) 1) &&& (-49201 : Int32)))))] := hD
  refine lv_aload_n hx hb d_Sta_raise_42 rfl (lv_at hl 0 rfl) ?_
  refine lv_iload_n hx hb d_Sta_raise_43 rfl (lv_at hl 1 rfl) ?_
  refine va_put (D := D) (ci := 9) (v := .int p0) (ty := .int) (C := "MappedProcessor$State") (T := T_Sta) (N := 6) hx hb hB iw_Sta ty_Sta ty_Sta_ok nm_Sta hown hK hP hD hS 0 rfl rfl 2 (by decide) (hB _ mw_41) (fun _ h9 => h9) rfl (by decide +kernel) rfl rfl (Nat.le_of_ble_eq_true rfl) d_Sta_raise_44 (fun H locs hP hD hS => ?_)
  have hP : va_P D kCl [(aS, .inr (9, [.ref aG, .ref aX, .int p0, .int lt, .int sm, .int ex])), (aG, .inl (cG, 32, .inl g)), (aX, .inl (cX, 64, .inl (upd (upd (upd sp 6 (sp 0)) 7 ((((upd sp 6 (sp 0)) 1) &&& (65535 : Int32)) + p1)) 1 (((upd (upd sp 6 (sp 0)) 7 ((((upd sp 6 (sp 0)) 1) &&& (65535 : Int32)) + p1)) 1) &&& (-49201 : Int32)))))] H := hP
  have hD : va_D A [(aS, .inr (9, [.ref aG, .ref aX, .int p0, .int lt, .int sm, .int ex])), (aG, .inl (cG, 32, .inl g)), (aX, .inl (cX, 64, .inl (upd (upd (upd sp 6 (sp 0)) 7 ((((upd sp 6 (sp 0)) 1) &&& (65535 : Int32)) + p1)) 1 (((upd (upd sp 6 (sp 0)) 7 ((((upd sp 6 (sp 0)) 1) &&& (65535 : Int32)) + p1)) 1) &&& (-49201 : Int32)))))] := hD
  refine lv_aload_n hx hb d_Sta_raise_47 rfl (lv_at hl 0 rfl) ?_
  refine lv_iload_n hx hb d_Sta_raise_48 rfl (lv_at hl 1 rfl) ?_
  refine va_put (D := D) (ci := 9) (v := .int p0) (ty := .int) (C := "MappedProcessor$State") (T := T_Sta) (N := 6) hx hb hB iw_Sta ty_Sta ty_Sta_ok nm_Sta hown hK hP hD hS 0 rfl rfl 3 (by decide) (hB _ mw_42) (fun _ h9 => h9) rfl (by decide +kernel) rfl rfl (Nat.le_of_ble_eq_true rfl) d_Sta_raise_49 (fun H locs hP hD hS => ?_)
  have hP : va_P D kCl [(aS, .inr (9, [.ref aG, .ref aX, .int p0, .int p0, .int sm, .int ex])), (aG, .inl (cG, 32, .inl g)), (aX, .inl (cX, 64, .inl (upd (upd (upd sp 6 (sp 0)) 7 ((((upd sp 6 (sp 0)) 1) &&& (65535 : Int32)) + p1)) 1 (((upd (upd sp 6 (sp 0)) 7 ((((upd sp 6 (sp 0)) 1) &&& (65535 : Int32)) + p1)) 1) &&& (-49201 : Int32)))))] H := hP
  have hD : va_D A [(aS, .inr (9, [.ref aG, .ref aX, .int p0, .int p0, .int sm, .int ex])), (aG, .inl (cG, 32, .inl g)), (aX, .inl (cX, 64, .inl (upd (upd (upd sp 6 (sp 0)) 7 ((((upd sp 6 (sp 0)) 1) &&& (65535 : Int32)) + p1)) 1 (((upd (upd sp 6 (sp 0)) 7 ((((upd sp 6 (sp 0)) 1) &&& (65535 : Int32)) + p1)) 1) &&& (-49201 : Int32)))))] := hD
  refine lv_aload_n hx hb d_Sta_raise_52 rfl (lv_at hl 0 rfl) ?_
  refine lv_dup hx hb d_Sta_raise_53 rfl ?_
  refine va_get (D := D) (ci := 9) (v := .int ex) (C := "MappedProcessor$State") (T := T_Sta) (N := 6) hx hb hB iw_Sta hown hK hP 0 rfl rfl 5 (by decide) (hB _ mw_44) (fun _ h9 => h9) rfl d_Sta_raise_54 ?_
  refine lv_iconst (v := (1 : Int32)) hx hb d_Sta_raise_57 (by decide) ?_
  refine lv_iadd hx hb d_Sta_raise_58 ?_
  refine va_put (D := D) (ci := 9) (v := .int (ex + (1 : Int32))) (ty := .int) (C := "MappedProcessor$State") (T := T_Sta) (N := 6) hx hb hB iw_Sta ty_Sta ty_Sta_ok nm_Sta hown hK hP hD hS 0 rfl rfl 5 (by decide) (hB _ mw_44) (fun _ h9 => h9) rfl (by decide +kernel) rfl rfl (Nat.le_of_ble_eq_true rfl) d_Sta_raise_59 (fun H locs hP hD hS => ?_)
  have hP : va_P D kCl [(aS, .inr (9, [.ref aG, .ref aX, .int p0, .int p0, .int sm, .int (ex + (1 : Int32))])), (aG, .inl (cG, 32, .inl g)), (aX, .inl (cX, 64, .inl (upd (upd (upd sp 6 (sp 0)) 7 ((((upd sp 6 (sp 0)) 1) &&& (65535 : Int32)) + p1)) 1 (((upd (upd sp 6 (sp 0)) 7 ((((upd sp 6 (sp 0)) 1) &&& (65535 : Int32)) + p1)) 1) &&& (-49201 : Int32)))))] H := hP
  have hD : va_D A [(aS, .inr (9, [.ref aG, .ref aX, .int p0, .int p0, .int sm, .int (ex + (1 : Int32))])), (aG, .inl (cG, 32, .inl g)), (aX, .inl (cX, 64, .inl (upd (upd (upd sp 6 (sp 0)) 7 ((((upd sp 6 (sp 0)) 1) &&& (65535 : Int32)) + p1)) 1 (((upd (upd sp 6 (sp 0)) 7 ((((upd sp 6 (sp 0)) 1) &&& (65535 : Int32)) + p1)) 1) &&& (-49201 : Int32)))))] := hD
  have ef : f_Sta_raise p0 p1 sp ex = ((upd (upd (upd sp 6 (sp 0)) 7 ((((upd sp 6 (sp 0)) 1) &&& (65535 : Int32)) + p1)) 1 (((upd (upd sp 6 (sp 0)) 7 ((((upd sp 6 (sp 0)) 1) &&& (65535 : Int32)) + p1)) 1) &&& (-49201 : Int32))), p0, p0, (ex + (1 : Int32))) := rfl
  exact k_vret hx hb hr hlocks hK hP hD hS [0, 1, 2] rfl (by rw [ef] <;> rfl) d_Sta_raise_62
/-! MappedProcessor$Instruction.take(I)V -/
theorem d_Ins_take_0 : decode b_Ins_take 0 = .ok (.aload_n 0, 1) := by decide +kernel
theorem d_Ins_take_1 : decode b_Ins_take 1 = .ok (.iload_n 1, 1) := by decide +kernel
theorem d_Ins_take_2 : decode b_Ins_take 2 = .ok (.putfield 9, 3) := by decide +kernel
theorem d_Ins_take_5 : decode b_Ins_take 5 = .ok (.aload_n 0, 1) := by decide +kernel
theorem d_Ins_take_6 : decode b_Ins_take 6 = .ok (.iload_n 1, 1) := by decide +kernel
theorem d_Ins_take_7 : decode b_Ins_take 7 = .ok (.bipush 26, 2) := by decide +kernel
theorem d_Ins_take_9 : decode b_Ins_take 9 = .ok (.iushr, 1) := by decide +kernel
theorem d_Ins_take_10 : decode b_Ins_take 10 = .ok (.putfield 15, 3) := by decide +kernel
theorem d_Ins_take_13 : decode b_Ins_take 13 = .ok (.aload_n 0, 1) := by decide +kernel
theorem d_Ins_take_14 : decode b_Ins_take 14 = .ok (.iload_n 1, 1) := by decide +kernel
theorem d_Ins_take_15 : decode b_Ins_take 15 = .ok (.bipush 21, 2) := by decide +kernel
theorem d_Ins_take_17 : decode b_Ins_take 17 = .ok (.ishr, 1) := by decide +kernel
theorem d_Ins_take_18 : decode b_Ins_take 18 = .ok (.bipush 31, 2) := by decide +kernel
theorem d_Ins_take_20 : decode b_Ins_take 20 = .ok (.iand, 1) := by decide +kernel
theorem d_Ins_take_21 : decode b_Ins_take 21 = .ok (.putfield 18, 3) := by decide +kernel
theorem d_Ins_take_24 : decode b_Ins_take 24 = .ok (.aload_n 0, 1) := by decide +kernel
theorem d_Ins_take_25 : decode b_Ins_take 25 = .ok (.iload_n 1, 1) := by decide +kernel
theorem d_Ins_take_26 : decode b_Ins_take 26 = .ok (.bipush 16, 2) := by decide +kernel
theorem d_Ins_take_28 : decode b_Ins_take 28 = .ok (.ishr, 1) := by decide +kernel
theorem d_Ins_take_29 : decode b_Ins_take 29 = .ok (.bipush 31, 2) := by decide +kernel
theorem d_Ins_take_31 : decode b_Ins_take 31 = .ok (.iand, 1) := by decide +kernel
theorem d_Ins_take_32 : decode b_Ins_take 32 = .ok (.putfield 21, 3) := by decide +kernel
theorem d_Ins_take_35 : decode b_Ins_take 35 = .ok (.aload_n 0, 1) := by decide +kernel
theorem d_Ins_take_36 : decode b_Ins_take 36 = .ok (.iload_n 1, 1) := by decide +kernel
theorem d_Ins_take_37 : decode b_Ins_take 37 = .ok (.bipush 11, 2) := by decide +kernel
theorem d_Ins_take_39 : decode b_Ins_take 39 = .ok (.ishr, 1) := by decide +kernel
theorem d_Ins_take_40 : decode b_Ins_take 40 = .ok (.bipush 31, 2) := by decide +kernel
theorem d_Ins_take_42 : decode b_Ins_take 42 = .ok (.iand, 1) := by decide +kernel
theorem d_Ins_take_43 : decode b_Ins_take 43 = .ok (.putfield 24, 3) := by decide +kernel
theorem d_Ins_take_46 : decode b_Ins_take 46 = .ok (.aload_n 0, 1) := by decide +kernel
theorem d_Ins_take_47 : decode b_Ins_take 47 = .ok (.iload_n 1, 1) := by decide +kernel
theorem d_Ins_take_48 : decode b_Ins_take 48 = .ok (.iconst 1, 1) := by decide +kernel
theorem d_Ins_take_49 : decode b_Ins_take 49 = .ok (.ishr, 1) := by decide +kernel
theorem d_Ins_take_50 : decode b_Ins_take 50 = .ok (.sipush 1023, 3) := by decide +kernel
theorem d_Ins_take_53 : decode b_Ins_take 53 = .ok (.iand, 1) := by decide +kernel
theorem d_Ins_take_54 : decode b_Ins_take 54 = .ok (.putfield 27, 3) := by decide +kernel
theorem d_Ins_take_57 : decode b_Ins_take 57 = .ok (.aload_n 0, 1) := by decide +kernel
theorem d_Ins_take_58 : decode b_Ins_take 58 = .ok (.iload_n 1, 1) := by decide +kernel
theorem d_Ins_take_59 : decode b_Ins_take 59 = .ok (.i2s, 1) := by decide +kernel
theorem d_Ins_take_60 : decode b_Ins_take 60 = .ok (.putfield 30, 3) := by decide +kernel
theorem d_Ins_take_63 : decode b_Ins_take 63 = .ok (.aload_n 0, 1) := by decide +kernel
theorem d_Ins_take_64 : decode b_Ins_take 64 = .ok (.iload_n 1, 1) := by decide +kernel
theorem d_Ins_take_65 : decode b_Ins_take 65 = .ok (.ldc 33, 2) := by decide +kernel
theorem d_Ins_take_67 : decode b_Ins_take 67 = .ok (.iand, 1) := by decide +kernel
theorem d_Ins_take_68 : decode b_Ins_take 68 = .ok (.putfield 34, 3) := by decide +kernel
theorem d_Ins_take_71 : decode b_Ins_take 71 = .ok (.return_, 1) := by decide +kernel
def f_Ins_take (p0 : Int32) : Int32 × Int32 × Int32 × Int32 × Int32 × Int32 × Int32 × Int32 :=
  (p0, (ush p0 (26 : Int32)), ((shr p0 (21 : Int32)) &&& (31 : Int32)), ((shr p0 (16 : Int32)) &&& (31 : Int32)), ((shr p0 (11 : Int32)) &&& (31 : Int32)), ((shr p0 (1 : Int32)) &&& (1023 : Int32)), (p0.toInt16.toInt32), (p0 &&& (65535 : Int32)))
set_option maxHeartbeats 4000000 in
set_option maxRecDepth 100000 in
theorem c_Ins_take (l : Launch) (D : va_G) (aI : Nat) (iw : Int32) (io : Int32) (id : Int32) (ia : Int32) (ib : Int32) (ii : Int32) (is : Int32) (iu : Int32) (p0 : Int32) : kMv l y_Ins_take b_Ins_take 2 none 0 0 D kCl [] [.ref aI, .int p0] [(aI, .inr (5, [.int iw, .int io, .int id, .int ia, .int ib, .int ii, .int is, .int iu]))] [(aI, .inr (5, [.int (f_Ins_take p0).1, .int (f_Ins_take p0).2.1, .int (f_Ins_take p0).2.2.1, .int (f_Ins_take p0).2.2.2.1, .int (f_Ins_take p0).2.2.2.2.1, .int (f_Ins_take p0).2.2.2.2.2.1, .int (f_Ins_take p0).2.2.2.2.2.2.1, .int (f_Ins_take p0).2.2.2.2.2.2.2]))] := by
  refine k_entry (Qc := fun A => kQv D kCl [] [(aI, .inr (5, [.int (f_Ins_take p0).1, .int (f_Ins_take p0).2.1, .int (f_Ins_take p0).2.2.1, .int (f_Ins_take p0).2.2.2.1, .int (f_Ins_take p0).2.2.2.2.1, .int (f_Ins_take p0).2.2.2.2.2.1, .int (f_Ins_take p0).2.2.2.2.2.2.1, .int (f_Ins_take p0).2.2.2.2.2.2.2]))] A) (lv := [(0, .ref aI), (1, .int p0)]) (by decide) (Nat.le_of_ble_eq_true rfl) rfl ?_
  intro p e s m below meth c A ls hx hb hr hml hB hown hlocks hin hA hK hN hP hD hS hl
  have hown : s.vm.findClass "MappedProcessor$Instruction" = some m.cls := hown
  refine lv_aload_n hx hb d_Ins_take_0 rfl (lv_at hl 0 rfl) ?_
  refine lv_iload_n hx hb d_Ins_take_1 rfl (lv_at hl 1 rfl) ?_
  refine va_put (D := D) (ci := 5) (v := .int p0) (ty := .int) (C := "MappedProcessor$Instruction") (T := T_Ins) (N := 8) hx hb hB iw_Ins ty_Ins ty_Ins_ok nm_Ins hown hK hP hD hS 0 rfl rfl 0 (by decide) (hB _ mw_80) (fun _ h9 => h9) rfl (by decide +kernel) rfl rfl (Nat.le_of_ble_eq_true rfl) d_Ins_take_2 (fun H locs hP hD hS => ?_)
  have hP : va_P D kCl [(aI, .inr (5, [.int p0, .int io, .int id, .int ia, .int ib, .int ii, .int is, .int iu]))] H := hP
  have hD : va_D A [(aI, .inr (5, [.int p0, .int io, .int id, .int ia, .int ib, .int ii, .int is, .int iu]))] := hD
  refine lv_aload_n hx hb d_Ins_take_5 rfl (lv_at hl 0 rfl) ?_
  refine lv_iload_n hx hb d_Ins_take_6 rfl (lv_at hl 1 rfl) ?_
  refine lv_bipush (v := (26 : Int32)) hx hb d_Ins_take_7 (by decide) ?_
  refine lv_iushr (v := (ush p0 (26 : Int32))) hx hb d_Ins_take_9 rfl ?_
  refine va_put (D := D) (ci := 5) (v := .int (ush p0 (26 : Int32))) (ty := .int) (C := "MappedProcessor$Instruction") (T := T_Ins) (N := 8) hx hb hB iw_Ins ty_Ins ty_Ins_ok nm_Ins hown hK hP hD hS 0 rfl rfl 1 (by decide) (hB _ mw_85) (fun _ h9 => h9) rfl (by decide +kernel) rfl rfl (Nat.le_of_ble_eq_true rfl) d_Ins_take_10 (fun H locs hP hD hS => ?_)
  have hP : va_P D kCl [(aI, .inr (5, [.int p0, .int (ush p0 (26 : Int32)), .int id, .int ia, .int ib, .int ii, .int is, .int iu]))] H := hP
  have hD : va_D A [(aI, .inr (5, [.int p0, .int (ush p0 (26 : Int32)), .int id, .int ia, .int ib, .int ii, .int is, .int iu]))] := hD
  refine lv_aload_n hx hb d_Ins_take_13 rfl (lv_at hl 0 rfl) ?_
  refine lv_iload_n hx hb d_Ins_take_14 rfl (lv_at hl 1 rfl) ?_
  refine lv_bipush (v := (21 : Int32)) hx hb d_Ins_take_15 (by decide) ?_
  refine lv_ishr hx hb d_Ins_take_17 ?_
  refine lv_bipush (v := (31 : Int32)) hx hb d_Ins_take_18 (by decide) ?_
  refine lv_iand hx hb d_Ins_take_20 ?_
  refine va_put (D := D) (ci := 5) (v := .int ((shr p0 (21 : Int32)) &&& (31 : Int32))) (ty := .int) (C := "MappedProcessor$Instruction") (T := T_Ins) (N := 8) hx hb hB iw_Ins ty_Ins ty_Ins_ok nm_Ins hown hK hP hD hS 0 rfl rfl 2 (by decide) (hB _ mw_91) (fun _ h9 => h9) rfl (by decide +kernel) rfl rfl (Nat.le_of_ble_eq_true rfl) d_Ins_take_21 (fun H locs hP hD hS => ?_)
  have hP : va_P D kCl [(aI, .inr (5, [.int p0, .int (ush p0 (26 : Int32)), .int ((shr p0 (21 : Int32)) &&& (31 : Int32)), .int ia, .int ib, .int ii, .int is, .int iu]))] H := hP
  have hD : va_D A [(aI, .inr (5, [.int p0, .int (ush p0 (26 : Int32)), .int ((shr p0 (21 : Int32)) &&& (31 : Int32)), .int ia, .int ib, .int ii, .int is, .int iu]))] := hD
  refine lv_aload_n hx hb d_Ins_take_24 rfl (lv_at hl 0 rfl) ?_
  refine lv_iload_n hx hb d_Ins_take_25 rfl (lv_at hl 1 rfl) ?_
  refine lv_bipush (v := (16 : Int32)) hx hb d_Ins_take_26 (by decide) ?_
  refine lv_ishr hx hb d_Ins_take_28 ?_
  refine lv_bipush (v := (31 : Int32)) hx hb d_Ins_take_29 (by decide) ?_
  refine lv_iand hx hb d_Ins_take_31 ?_
  refine va_put (D := D) (ci := 5) (v := .int ((shr p0 (16 : Int32)) &&& (31 : Int32))) (ty := .int) (C := "MappedProcessor$Instruction") (T := T_Ins) (N := 8) hx hb hB iw_Ins ty_Ins ty_Ins_ok nm_Ins hown hK hP hD hS 0 rfl rfl 3 (by decide) (hB _ mw_99) (fun _ h9 => h9) rfl (by decide +kernel) rfl rfl (Nat.le_of_ble_eq_true rfl) d_Ins_take_32 (fun H locs hP hD hS => ?_)
  have hP : va_P D kCl [(aI, .inr (5, [.int p0, .int (ush p0 (26 : Int32)), .int ((shr p0 (21 : Int32)) &&& (31 : Int32)), .int ((shr p0 (16 : Int32)) &&& (31 : Int32)), .int ib, .int ii, .int is, .int iu]))] H := hP
  have hD : va_D A [(aI, .inr (5, [.int p0, .int (ush p0 (26 : Int32)), .int ((shr p0 (21 : Int32)) &&& (31 : Int32)), .int ((shr p0 (16 : Int32)) &&& (31 : Int32)), .int ib, .int ii, .int is, .int iu]))] := hD
  refine lv_aload_n hx hb d_Ins_take_35 rfl (lv_at hl 0 rfl) ?_
  refine lv_iload_n hx hb d_Ins_take_36 rfl (lv_at hl 1 rfl) ?_
  refine lv_bipush (v := (11 : Int32)) hx hb d_Ins_take_37 (by decide) ?_
  refine lv_ishr hx hb d_Ins_take_39 ?_
  refine lv_bipush (v := (31 : Int32)) hx hb d_Ins_take_40 (by decide) ?_
  refine lv_iand hx hb d_Ins_take_42 ?_
  refine va_put (D := D) (ci := 5) (v := .int ((shr p0 (11 : Int32)) &&& (31 : Int32))) (ty := .int) (C := "MappedProcessor$Instruction") (T := T_Ins) (N := 8) hx hb hB iw_Ins ty_Ins ty_Ins_ok nm_Ins hown hK hP hD hS 0 rfl rfl 4 (by decide) (hB _ mw_104) (fun _ h9 => h9) rfl (by decide +kernel) rfl rfl (Nat.le_of_ble_eq_true rfl) d_Ins_take_43 (fun H locs hP hD hS => ?_)
  have hP : va_P D kCl [(aI, .inr (5, [.int p0, .int (ush p0 (26 : Int32)), .int ((shr p0 (21 : Int32)) &&& (31 : Int32)), .int ((shr p0 (16 : Int32)) &&& (31 : Int32)), .int ((shr p0 (11 : Int32)) &&& (31 : Int32)), .int ii, .int is, .int iu]))] H := hP
  have hD : va_D A [(aI, .inr (5, [.int p0, .int (ush p0 (26 : Int32)), .int ((shr p0 (21 : Int32)) &&& (31 : Int32)), .int ((shr p0 (16 : Int32)) &&& (31 : Int32)), .int ((shr p0 (11 : Int32)) &&& (31 : Int32)), .int ii, .int is, .int iu]))] := hD
  refine lv_aload_n hx hb d_Ins_take_46 rfl (lv_at hl 0 rfl) ?_
  refine lv_iload_n hx hb d_Ins_take_47 rfl (lv_at hl 1 rfl) ?_
  refine lv_iconst (v := (1 : Int32)) hx hb d_Ins_take_48 (by decide) ?_
  refine lv_ishr hx hb d_Ins_take_49 ?_
  refine lv_sipush (v := (1023 : Int32)) hx hb d_Ins_take_50 (by decide) ?_
  refine lv_iand hx hb d_Ins_take_53 ?_
  refine va_put (D := D) (ci := 5) (v := .int ((shr p0 (1 : Int32)) &&& (1023 : Int32))) (ty := .int) (C := "MappedProcessor$Instruction") (T := T_Ins) (N := 8) hx hb hB iw_Ins ty_Ins ty_Ins_ok nm_Ins hown hK hP hD hS 0 rfl rfl 5 (by decide) (hB _ mw_112) (fun _ h9 => h9) rfl (by decide +kernel) rfl rfl (Nat.le_of_ble_eq_true rfl) d_Ins_take_54 (fun H locs hP hD hS => ?_)
  have hP : va_P D kCl [(aI, .inr (5, [.int p0, .int (ush p0 (26 : Int32)), .int ((shr p0 (21 : Int32)) &&& (31 : Int32)), .int ((shr p0 (16 : Int32)) &&& (31 : Int32)), .int ((shr p0 (11 : Int32)) &&& (31 : Int32)), .int ((shr p0 (1 : Int32)) &&& (1023 : Int32)), .int is, .int iu]))] H := hP
  have hD : va_D A [(aI, .inr (5, [.int p0, .int (ush p0 (26 : Int32)), .int ((shr p0 (21 : Int32)) &&& (31 : Int32)), .int ((shr p0 (16 : Int32)) &&& (31 : Int32)), .int ((shr p0 (11 : Int32)) &&& (31 : Int32)), .int ((shr p0 (1 : Int32)) &&& (1023 : Int32)), .int is, .int iu]))] := hD
  refine lv_aload_n hx hb d_Ins_take_57 rfl (lv_at hl 0 rfl) ?_
  refine lv_iload_n hx hb d_Ins_take_58 rfl (lv_at hl 1 rfl) ?_
  refine lv_i2s (v := (p0.toInt16.toInt32)) hx hb d_Ins_take_59 rfl ?_
  refine va_put (D := D) (ci := 5) (v := .int (p0.toInt16.toInt32)) (ty := .int) (C := "MappedProcessor$Instruction") (T := T_Ins) (N := 8) hx hb hB iw_Ins ty_Ins ty_Ins_ok nm_Ins hown hK hP hD hS 0 rfl rfl 6 (by decide) (hB _ mw_121) (fun _ h9 => h9) rfl (by decide +kernel) rfl rfl (Nat.le_of_ble_eq_true rfl) d_Ins_take_60 (fun H locs hP hD hS => ?_)
  have hP : va_P D kCl [(aI, .inr (5, [.int p0, .int (ush p0 (26 : Int32)), .int ((shr p0 (21 : Int32)) &&& (31 : Int32)), .int ((shr p0 (16 : Int32)) &&& (31 : Int32)), .int ((shr p0 (11 : Int32)) &&& (31 : Int32)), .int ((shr p0 (1 : Int32)) &&& (1023 : Int32)), .int (p0.toInt16.toInt32), .int iu]))] H := hP
  have hD : va_D A [(aI, .inr (5, [.int p0, .int (ush p0 (26 : Int32)), .int ((shr p0 (21 : Int32)) &&& (31 : Int32)), .int ((shr p0 (16 : Int32)) &&& (31 : Int32)), .int ((shr p0 (11 : Int32)) &&& (31 : Int32)), .int ((shr p0 (1 : Int32)) &&& (1023 : Int32)), .int (p0.toInt16.toInt32), .int iu]))] := hD
  refine lv_aload_n hx hb d_Ins_take_63 rfl (lv_at hl 0 rfl) ?_
  refine lv_iload_n hx hb d_Ins_take_64 rfl (lv_at hl 1 rfl) ?_
  refine lv_ldc (v := (65535 : Int32)) hx hb hown (hB _ mw_369) d_Ins_take_65 ?_
  refine lv_iand hx hb d_Ins_take_67 ?_
  refine va_put (D := D) (ci := 5) (v := .int (p0 &&& (65535 : Int32))) (ty := .int) (C := "MappedProcessor$Instruction") (T := T_Ins) (N := 8) hx hb hB iw_Ins ty_Ins ty_Ins_ok nm_Ins hown hK hP hD hS 0 rfl rfl 7 (by decide) (hB _ mw_124) (fun _ h9 => h9) rfl (by decide +kernel) rfl rfl (Nat.le_of_ble_eq_true rfl) d_Ins_take_68 (fun H locs hP hD hS => ?_)
  have hP : va_P D kCl [(aI, .inr (5, [.int p0, .int (ush p0 (26 : Int32)), .int ((shr p0 (21 : Int32)) &&& (31 : Int32)), .int ((shr p0 (16 : Int32)) &&& (31 : Int32)), .int ((shr p0 (11 : Int32)) &&& (31 : Int32)), .int ((shr p0 (1 : Int32)) &&& (1023 : Int32)), .int (p0.toInt16.toInt32), .int (p0 &&& (65535 : Int32))]))] H := hP
  have hD : va_D A [(aI, .inr (5, [.int p0, .int (ush p0 (26 : Int32)), .int ((shr p0 (21 : Int32)) &&& (31 : Int32)), .int ((shr p0 (16 : Int32)) &&& (31 : Int32)), .int ((shr p0 (11 : Int32)) &&& (31 : Int32)), .int ((shr p0 (1 : Int32)) &&& (1023 : Int32)), .int (p0.toInt16.toInt32), .int (p0 &&& (65535 : Int32))]))] := hD
  have ef : f_Ins_take p0 = (p0, (ush p0 (26 : Int32)), ((shr p0 (21 : Int32)) &&& (31 : Int32)), ((shr p0 (16 : Int32)) &&& (31 : Int32)), ((shr p0 (11 : Int32)) &&& (31 : Int32)), ((shr p0 (1 : Int32)) &&& (1023 : Int32)), (p0.toInt16.toInt32), (p0 &&& (65535 : Int32))) := rfl
  exact k_vret hx hb hr hlocks hK hP hD hS [0] rfl (by rw [ef] <;> rfl) d_Ins_take_71
/-! MappedProcessor$State.keepOrder(II)V -/
theorem d_Sta_keepOrder_0 : decode b_Sta_keepOrder 0 = .ok (.iload_n 2, 1) := by decide +kernel
theorem d_Sta_keepOrder_1 : decode b_Sta_keepOrder 1 = .ok (.ifCond .ge 8, 3) := by decide +kernel
theorem d_Sta_keepOrder_4 : decode b_Sta_keepOrder 4 = .ok (.bipush 8, 2) := by decide +kernel
theorem d_Sta_keepOrder_6 : decode b_Sta_keepOrder 6 = .ok (.goto 4, 3) := by decide +kernel
theorem d_Sta_keepOrder_9 : decode b_Sta_keepOrder 9 = .ok (.iconst 0, 1) := by decide +kernel
theorem d_Sta_keepOrder_10 : decode b_Sta_keepOrder 10 = .ok (.istore_n 3, 1) := by decide +kernel
theorem d_Sta_keepOrder_11 : decode b_Sta_keepOrder 11 = .ok (.iload_n 2, 1) := by decide +kernel
theorem d_Sta_keepOrder_12 : decode b_Sta_keepOrder 12 = .ok (.ifCond .le 7, 3) := by decide +kernel
theorem d_Sta_keepOrder_15 : decode b_Sta_keepOrder 15 = .ok (.iconst 4, 1) := by decide +kernel
theorem d_Sta_keepOrder_16 : decode b_Sta_keepOrder 16 = .ok (.goto 4, 3) := by decide +kernel
theorem d_Sta_keepOrder_19 : decode b_Sta_keepOrder 19 = .ok (.iconst 0, 1) := by decide +kernel
theorem d_Sta_keepOrder_20 : decode b_Sta_keepOrder 20 = .ok (.istore 4, 2) := by decide +kernel
theorem d_Sta_keepOrder_22 : decode b_Sta_keepOrder 22 = .ok (.iload_n 2, 1) := by decide +kernel
theorem d_Sta_keepOrder_23 : decode b_Sta_keepOrder 23 = .ok (.ifCond .ne 7, 3) := by decide +kernel
theorem d_Sta_keepOrder_26 : decode b_Sta_keepOrder 26 = .ok (.iconst 2, 1) := by decide +kernel
theorem d_Sta_keepOrder_27 : decode b_Sta_keepOrder 27 = .ok (.goto 4, 3) := by decide +kernel
theorem d_Sta_keepOrder_30 : decode b_Sta_keepOrder 30 = .ok (.iconst 0, 1) := by decide +kernel
theorem d_Sta_keepOrder_31 : decode b_Sta_keepOrder 31 = .ok (.istore 5, 2) := by decide +kernel
theorem d_Sta_keepOrder_33 : decode b_Sta_keepOrder 33 = .ok (.aload_n 0, 1) := by decide +kernel
theorem d_Sta_keepOrder_34 : decode b_Sta_keepOrder 34 = .ok (.getfield 15, 3) := by decide +kernel
theorem d_Sta_keepOrder_37 : decode b_Sta_keepOrder 37 = .ok (.iconst 3, 1) := by decide +kernel
theorem d_Sta_keepOrder_38 : decode b_Sta_keepOrder 38 = .ok (.iaload, 1) := by decide +kernel
theorem d_Sta_keepOrder_39 : decode b_Sta_keepOrder 39 = .ok (.bipush 31, 2) := by decide +kernel
theorem d_Sta_keepOrder_41 : decode b_Sta_keepOrder 41 = .ok (.iushr, 1) := by decide +kernel
theorem d_Sta_keepOrder_42 : decode b_Sta_keepOrder 42 = .ok (.istore 6, 2) := by decide +kernel
theorem d_Sta_keepOrder_44 : decode b_Sta_keepOrder 44 = .ok (.bipush 28, 2) := by decide +kernel
theorem d_Sta_keepOrder_46 : decode b_Sta_keepOrder 46 = .ok (.iconst 4, 1) := by decide +kernel
theorem d_Sta_keepOrder_47 : decode b_Sta_keepOrder 47 = .ok (.iload_n 1, 1) := by decide +kernel
theorem d_Sta_keepOrder_48 : decode b_Sta_keepOrder 48 = .ok (.imul, 1) := by decide +kernel
theorem d_Sta_keepOrder_49 : decode b_Sta_keepOrder 49 = .ok (.isub, 1) := by decide +kernel
theorem d_Sta_keepOrder_50 : decode b_Sta_keepOrder 50 = .ok (.istore 7, 2) := by decide +kernel
theorem d_Sta_keepOrder_52 : decode b_Sta_keepOrder 52 = .ok (.iload_n 3, 1) := by decide +kernel
theorem d_Sta_keepOrder_53 : decode b_Sta_keepOrder 53 = .ok (.iload 4, 2) := by decide +kernel
theorem d_Sta_keepOrder_55 : decode b_Sta_keepOrder 55 = .ok (.ior, 1) := by decide +kernel
theorem d_Sta_keepOrder_56 : decode b_Sta_keepOrder 56 = .ok (.iload 5, 2) := by decide +kernel
theorem d_Sta_keepOrder_58 : decode b_Sta_keepOrder 58 = .ok (.ior, 1) := by decide +kernel
theorem d_Sta_keepOrder_59 : decode b_Sta_keepOrder 59 = .ok (.iload 6, 2) := by decide +kernel
theorem d_Sta_keepOrder_61 : decode b_Sta_keepOrder 61 = .ok (.ior, 1) := by decide +kernel
theorem d_Sta_keepOrder_62 : decode b_Sta_keepOrder 62 = .ok (.istore 8, 2) := by decide +kernel
theorem d_Sta_keepOrder_64 : decode b_Sta_keepOrder 64 = .ok (.aload_n 0, 1) := by decide +kernel
theorem d_Sta_keepOrder_65 : decode b_Sta_keepOrder 65 = .ok (.getfield 15, 3) := by decide +kernel
theorem d_Sta_keepOrder_68 : decode b_Sta_keepOrder 68 = .ok (.iconst 2, 1) := by decide +kernel
theorem d_Sta_keepOrder_69 : decode b_Sta_keepOrder 69 = .ok (.aload_n 0, 1) := by decide +kernel
theorem d_Sta_keepOrder_70 : decode b_Sta_keepOrder 70 = .ok (.getfield 15, 3) := by decide +kernel
theorem d_Sta_keepOrder_73 : decode b_Sta_keepOrder 73 = .ok (.iconst 2, 1) := by decide +kernel
theorem d_Sta_keepOrder_74 : decode b_Sta_keepOrder 74 = .ok (.iaload, 1) := by decide +kernel
theorem d_Sta_keepOrder_75 : decode b_Sta_keepOrder 75 = .ok (.bipush 15, 2) := by decide +kernel
theorem d_Sta_keepOrder_77 : decode b_Sta_keepOrder 77 = .ok (.iload 7, 2) := by decide +kernel
theorem d_Sta_keepOrder_79 : decode b_Sta_keepOrder 79 = .ok (.ishl, 1) := by decide +kernel
theorem d_Sta_keepOrder_80 : decode b_Sta_keepOrder 80 = .ok (.iconst (-1), 1) := by decide +kernel
theorem d_Sta_keepOrder_81 : decode b_Sta_keepOrder 81 = .ok (.ixor, 1) := by decide +kernel
theorem d_Sta_keepOrder_82 : decode b_Sta_keepOrder 82 = .ok (.iand, 1) := by decide +kernel
theorem d_Sta_keepOrder_83 : decode b_Sta_keepOrder 83 = .ok (.iload 8, 2) := by decide +kernel
theorem d_Sta_keepOrder_85 : decode b_Sta_keepOrder 85 = .ok (.iload 7, 2) := by decide +kernel
theorem d_Sta_keepOrder_87 : decode b_Sta_keepOrder 87 = .ok (.ishl, 1) := by decide +kernel
theorem d_Sta_keepOrder_88 : decode b_Sta_keepOrder 88 = .ok (.ior, 1) := by decide +kernel
theorem d_Sta_keepOrder_89 : decode b_Sta_keepOrder 89 = .ok (.iastore, 1) := by decide +kernel
theorem d_Sta_keepOrder_90 : decode b_Sta_keepOrder 90 = .ok (.return_, 1) := by decide +kernel
def f_Sta_keepOrder (p0 : Int32) (p1 : Int32) (sp : Nat → Int32) : (Nat → Int32) :=
  (upd sp 2 (((sp 2) &&& ((shl (15 : Int32) ((28 : Int32) - ((4 : Int32) * p0))) ^^^ (-1 : Int32))) ||| (shl ((((if (0 : Int32) ≤ p1 then (0 : Int32) else (8 : Int32)) ||| (if p1 ≤ (0 : Int32) then (0 : Int32) else (4 : Int32))) ||| (if p1 = (0 : Int32) then (2 : Int32) else (0 : Int32))) ||| (ush (sp 3) (31 : Int32))) ((28 : Int32) - ((4 : Int32) * p0)))))
set_option maxHeartbeats 4000000 in
set_option maxRecDepth 100000 in
theorem c_Sta_keepOrder (l : Launch) (D : va_G) (aS aG aX : Nat) (cG cX : ClassId) (g : Nat → Int32) (sp : Nat → Int32) (nx : Int32) (lt : Int32) (sm : Int32) (ex : Int32) (p0 : Int32) (p1 : Int32) : kMv l y_Sta_keepOrder b_Sta_keepOrder 9 none 0 0 D kCl [(cG, .int), (cX, .int)] [.ref aS, .int p0, .int p1] [(aS, .inr (9, [.ref aG, .ref aX, .int nx, .int lt, .int sm, .int ex])), (aG, .inl (cG, 32, .inl g)), (aX, .inl (cX, 64, .inl sp))] [(aS, .inr (9, [.ref aG, .ref aX, .int nx, .int lt, .int sm, .int ex])), (aG, .inl (cG, 32, .inl g)), (aX, .inl (cX, 64, .inl (f_Sta_keepOrder p0 p1 sp)))] := by
  refine k_entry (Qc := fun A => kQv D kCl [(cG, .int), (cX, .int)] [(aS, .inr (9, [.ref aG, .ref aX, .int nx, .int lt, .int sm, .int ex])), (aG, .inl (cG, 32, .inl g)), (aX, .inl (cX, 64, .inl (f_Sta_keepOrder p0 p1 sp)))] A) (lv := [(0, .ref aS), (1, .int p0), (2, .int p1)]) (by decide) (Nat.le_of_ble_eq_true rfl) rfl ?_
  intro p e s m below meth c A ls hx hb hr hml hB hown hlocks hin hA hK hN hP hD hS hl
  have hown : s.vm.findClass "MappedProcessor$State" = some m.cls := hown
  refine lv_iload_n hx hb d_Sta_keepOrder_0 rfl (lv_at hl 2 rfl) ?_
  refine k_join2 (c0 := (0 : Int32) ≤ p1) (x1 := (0 : Int32)) (x2 := (8 : Int32)) (rest := []) 10 ?_ (fun k2 k3 => ?_)
  rotate_left
  · refine lv_if_ge (tgt := 9) hx hb d_Sta_keepOrder_1 (by decide) (fun (h1 : (0 : Int32) ≤ p1) => ?_) (fun (h1 : ¬ (0 : Int32) ≤ p1) => ?_)
    · refine lv_iconst (v := (0 : Int32)) hx hb d_Sta_keepOrder_9 (by decide) ?_
      exact k2 h1
    · refine lv_bipush (v := (8 : Int32)) hx hb d_Sta_keepOrder_4 (by decide) ?_
      refine lv_goto (tgt := 10) hx hb d_Sta_keepOrder_6 (by decide) ?_
      exact k3 h1
  refine lv_istore_n (lv' := [(3, .int (if (0 : Int32) ≤ p1 then (0 : Int32) else (8 : Int32))), (0, .ref aS), (1, .int p0), (2, .int p1)]) hx hb d_Sta_keepOrder_10 rfl hl (by decide) rfl (fun ls hl => ?_)
  refine lv_iload_n hx hb d_Sta_keepOrder_11 rfl (lv_at hl 3 rfl) ?_
  refine k_join2 (c0 := p1 ≤ (0 : Int32)) (x1 := (0 : Int32)) (x2 := (4 : Int32)) (rest := []) 20 ?_ (fun k7 k8 => ?_)
  rotate_left
  · refine lv_if_le (tgt := 19) hx hb d_Sta_keepOrder_12 (by decide) (fun (h6 : p1 ≤ (0 : Int32)) => ?_) (fun (h6 : ¬ p1 ≤ (0 : Int32)) => ?_)
    · refine lv_iconst (v := (0 : Int32)) hx hb d_Sta_keepOrder_19 (by decide) ?_
      exact k7 h6
    · refine lv_iconst (v := (4 : Int32)) hx hb d_Sta_keepOrder_15 (by decide) ?_
      refine lv_goto (tgt := 20) hx hb d_Sta_keepOrder_16 (by decide) ?_
      exact k8 h6
  refine lv_istore (lv' := [(4, .int (if p1 ≤ (0 : Int32) then (0 : Int32) else (4 : Int32))), (3, .int (if (0 : Int32) ≤ p1 then (0 : Int32) else (8 : Int32))), (0, .ref aS), (1, .int p0), (2, .int p1)]) hx hb d_Sta_keepOrder_20 hl (by decide) rfl (fun ls hl => ?_)
  refine lv_iload_n hx hb d_Sta_keepOrder_22 rfl (lv_at hl 4 rfl) ?_
  refine k_join2 (c0 := p1 = (0 : Int32)) (x1 := (2 : Int32)) (x2 := (0 : Int32)) (rest := []) 31 ?_ (fun k12 k13 => ?_)
  rotate_left
  · refine lv_if_ne (tgt := 30) hx hb d_Sta_keepOrder_23 (by decide) (fun (h11 : ¬ p1 = (0 : Int32)) => ?_) (fun (h11 : p1 = (0 : Int32)) => ?_)
    · refine lv_iconst (v := (0 : Int32)) hx hb d_Sta_keepOrder_30 (by decide) ?_
      exact k13 h11
    · refine lv_iconst (v := (2 : Int32)) hx hb d_Sta_keepOrder_26 (by decide) ?_
      refine lv_goto (tgt := 31) hx hb d_Sta_keepOrder_27 (by decide) ?_
      exact k12 h11
  refine lv_istore (lv' := [(5, .int (if p1 = (0 : Int32) then (2 : Int32) else (0 : Int32))), (4, .int (if p1 ≤ (0 : Int32) then (0 : Int32) else (4 : Int32))), (3, .int (if (0 : Int32) ≤ p1 then (0 : Int32) else (8 : Int32))), (0, .ref aS), (1, .int p0), (2, .int p1)]) hx hb d_Sta_keepOrder_31 hl (by decide) rfl (fun ls hl => ?_)
  refine lv_aload_n hx hb d_Sta_keepOrder_33 rfl (lv_at hl 3 rfl) ?_
  refine va_get (D := D) (ci := 9) (v := .ref aX) (C := "MappedProcessor$State") (T := T_Sta) (N := 6) hx hb hB iw_Sta hown hK hP 0 rfl rfl 1 (by decide) (hB _ mw_40) (fun _ h9 => h9) rfl d_Sta_keepOrder_34 ?_
  refine lv_iconst (v := (3 : Int32)) hx hb d_Sta_keepOrder_37 (by decide) ?_
  refine k_iald (j := 3) hx hb hK hP 2 1 rfl rfl (by decide) (by unfold vp_in; decide) d_Sta_keepOrder_38 ?_
  refine lv_bipush (v := (31 : Int32)) hx hb d_Sta_keepOrder_39 (by decide) ?_
  refine lv_iushr (v := (ush (sp 3) (31 : Int32))) hx hb d_Sta_keepOrder_41 rfl ?_
  refine lv_istore (lv' := [(6, .int (ush (sp 3) (31 : Int32))), (5, .int (if p1 = (0 : Int32) then (2 : Int32) else (0 : Int32))), (4, .int (if p1 ≤ (0 : Int32) then (0 : Int32) else (4 : Int32))), (3, .int (if (0 : Int32) ≤ p1 then (0 : Int32) else (8 : Int32))), (0, .ref aS), (1, .int p0), (2, .int p1)]) hx hb d_Sta_keepOrder_42 hl (by decide) rfl (fun ls hl => ?_)
  refine lv_bipush (v := (28 : Int32)) hx hb d_Sta_keepOrder_44 (by decide) ?_
  refine lv_iconst (v := (4 : Int32)) hx hb d_Sta_keepOrder_46 (by decide) ?_
  refine lv_iload_n hx hb d_Sta_keepOrder_47 rfl (lv_at hl 5 rfl) ?_
  refine lv_imul hx hb d_Sta_keepOrder_48 ?_
  refine lv_isub hx hb d_Sta_keepOrder_49 ?_
  refine lv_istore (lv' := [(7, .int ((28 : Int32) - ((4 : Int32) * p0))), (6, .int (ush (sp 3) (31 : Int32))), (5, .int (if p1 = (0 : Int32) then (2 : Int32) else (0 : Int32))), (4, .int (if p1 ≤ (0 : Int32) then (0 : Int32) else (4 : Int32))), (3, .int (if (0 : Int32) ≤ p1 then (0 : Int32) else (8 : Int32))), (0, .ref aS), (1, .int p0), (2, .int p1)]) hx hb d_Sta_keepOrder_50 hl (by decide) rfl (fun ls hl => ?_)
  refine lv_iload_n hx hb d_Sta_keepOrder_52 rfl (lv_at hl 4 rfl) ?_
  refine lv_iload hx hb d_Sta_keepOrder_53 (lv_at hl 3 rfl) ?_
  refine lv_ior hx hb d_Sta_keepOrder_55 ?_
  refine lv_iload hx hb d_Sta_keepOrder_56 (lv_at hl 2 rfl) ?_
  refine lv_ior hx hb d_Sta_keepOrder_58 ?_
  refine lv_iload hx hb d_Sta_keepOrder_59 (lv_at hl 1 rfl) ?_
  refine lv_ior hx hb d_Sta_keepOrder_61 ?_
  refine lv_istore (lv' := [(8, .int ((((if (0 : Int32) ≤ p1 then (0 : Int32) else (8 : Int32)) ||| (if p1 ≤ (0 : Int32) then (0 : Int32) else (4 : Int32))) ||| (if p1 = (0 : Int32) then (2 : Int32) else (0 : Int32))) ||| (ush (sp 3) (31 : Int32)))), (7, .int ((28 : Int32) - ((4 : Int32) * p0))), (6, .int (ush (sp 3) (31 : Int32))), (5, .int (if p1 = (0 : Int32) then (2 : Int32) else (0 : Int32))), (4, .int (if p1 ≤ (0 : Int32) then (0 : Int32) else (4 : Int32))), (3, .int (if (0 : Int32) ≤ p1 then (0 : Int32) else (8 : Int32))), (0, .ref aS), (1, .int p0), (2, .int p1)]) hx hb d_Sta_keepOrder_62 hl (by decide) rfl (fun ls hl => ?_)
  refine lv_aload_n hx hb d_Sta_keepOrder_64 rfl (lv_at hl 6 rfl) ?_
  refine va_get (D := D) (ci := 9) (v := .ref aX) (C := "MappedProcessor$State") (T := T_Sta) (N := 6) hx hb hB iw_Sta hown hK hP 0 rfl rfl 1 (by decide) (hB _ mw_40) (fun _ h9 => h9) rfl d_Sta_keepOrder_65 ?_
  refine lv_iconst (v := (2 : Int32)) hx hb d_Sta_keepOrder_68 (by decide) ?_
  refine lv_aload_n hx hb d_Sta_keepOrder_69 rfl (lv_at hl 6 rfl) ?_
  refine va_get (D := D) (ci := 9) (v := .ref aX) (C := "MappedProcessor$State") (T := T_Sta) (N := 6) hx hb hB iw_Sta hown hK hP 0 rfl rfl 1 (by decide) (hB _ mw_40) (fun _ h9 => h9) rfl d_Sta_keepOrder_70 ?_
  refine lv_iconst (v := (2 : Int32)) hx hb d_Sta_keepOrder_73 (by decide) ?_
  refine k_iald (j := 2) hx hb hK hP 2 1 rfl rfl (by decide) (by unfold vp_in; decide) d_Sta_keepOrder_74 ?_
  refine lv_bipush (v := (15 : Int32)) hx hb d_Sta_keepOrder_75 (by decide) ?_
  refine lv_iload hx hb d_Sta_keepOrder_77 (lv_at hl 1 rfl) ?_
  refine lv_ishl hx hb d_Sta_keepOrder_79 ?_
  refine lv_iconst (v := (-1 : Int32)) hx hb d_Sta_keepOrder_80 (by decide) ?_
  refine lv_ixor hx hb d_Sta_keepOrder_81 ?_
  refine lv_iand hx hb d_Sta_keepOrder_82 ?_
  refine lv_iload hx hb d_Sta_keepOrder_83 (lv_at hl 0 rfl) ?_
  refine lv_iload hx hb d_Sta_keepOrder_85 (lv_at hl 1 rfl) ?_
  refine lv_ishl hx hb d_Sta_keepOrder_87 ?_
  refine lv_ior hx hb d_Sta_keepOrder_88 ?_
  refine k_iast (j := 2) hx hb hK hP hD hS 2 1 rfl rfl (by decide) (by unfold vp_in; decide) d_Sta_keepOrder_89 (fun H locs hP hD hS => ?_)
  have hP : va_P D kCl [(aS, .inr (9, [.ref aG, .ref aX, .int nx, .int lt, .int sm, .int ex])), (aG, .inl (cG, 32, .inl g)), (aX, .inl (cX, 64, .inl (upd sp 2 (((sp 2) &&& ((shl (15 : Int32) ((28 : Int32) - ((4 : Int32) * p0))) ^^^ (-1 : Int32))) ||| (shl ((((if (0 : Int32) ≤ p1 then (0 : Int32) else (8 : Int32)) ||| (if p1 ≤ (0 : Int32) then (0 : Int32) else (4 : Int32))) ||| (if p1 = (0 : Int32) then (2 : Int32) else (0 : Int32))) ||| (ush (sp 3) (31 : Int32))) ((28 : Int32) - ((4 : Int32) * p0)))))))] H := hP
  have hD : va_D A [(aS, .inr (9, [.ref aG, .ref aX, .int nx, .int lt, .int sm, .int ex])), (aG, .inl (cG, 32, .inl g)), (aX, .inl (cX, 64, .inl (upd sp 2 (((sp 2) &&& ((shl (15 : Int32) ((28 : Int32) - ((4 : Int32) * p0))) ^^^ (-1 : Int32))) ||| (shl ((((if (0 : Int32) ≤ p1 then (0 : Int32) else (8 : Int32)) ||| (if p1 ≤ (0 : Int32) then (0 : Int32) else (4 : Int32))) ||| (if p1 = (0 : Int32) then (2 : Int32) else (0 : Int32))) ||| (ush (sp 3) (31 : Int32))) ((28 : Int32) - ((4 : Int32) * p0)))))))] := hD
  have ef : f_Sta_keepOrder p0 p1 sp = (upd sp 2 (((sp 2) &&& ((shl (15 : Int32) ((28 : Int32) - ((4 : Int32) * p0))) ^^^ (-1 : Int32))) ||| (shl ((((if (0 : Int32) ≤ p1 then (0 : Int32) else (8 : Int32)) ||| (if p1 ≤ (0 : Int32) then (0 : Int32) else (4 : Int32))) ||| (if p1 = (0 : Int32) then (2 : Int32) else (0 : Int32))) ||| (ush (sp 3) (31 : Int32))) ((28 : Int32) - ((4 : Int32) * p0))))) := rfl
  exact k_vret hx hb hr hlocks hK hP hD hS [0, 1, 2] rfl (by rw [ef] <;> rfl) d_Sta_keepOrder_90
/-! MappedProcessor$State.keepCarry(Z)V -/
theorem d_Sta_keepCarry_0 : decode b_Sta_keepCarry 0 = .ok (.aload_n 0, 1) := by decide +kernel
theorem d_Sta_keepCarry_1 : decode b_Sta_keepCarry 1 = .ok (.getfield 15, 3) := by decide +kernel
theorem d_Sta_keepCarry_4 : decode b_Sta_keepCarry 4 = .ok (.iconst 3, 1) := by decide +kernel
theorem d_Sta_keepCarry_5 : decode b_Sta_keepCarry 5 = .ok (.iload_n 1, 1) := by decide +kernel
theorem d_Sta_keepCarry_6 : decode b_Sta_keepCarry 6 = .ok (.ifCond .eq 15, 3) := by decide +kernel
theorem d_Sta_keepCarry_9 : decode b_Sta_keepCarry 9 = .ok (.aload_n 0, 1) := by decide +kernel
theorem d_Sta_keepCarry_10 : decode b_Sta_keepCarry 10 = .ok (.getfield 15, 3) := by decide +kernel
theorem d_Sta_keepCarry_13 : decode b_Sta_keepCarry 13 = .ok (.iconst 3, 1) := by decide +kernel
theorem d_Sta_keepCarry_14 : decode b_Sta_keepCarry 14 = .ok (.iaload, 1) := by decide +kernel
theorem d_Sta_keepCarry_15 : decode b_Sta_keepCarry 15 = .ok (.ldc 46, 2) := by decide +kernel
theorem d_Sta_keepCarry_17 : decode b_Sta_keepCarry 17 = .ok (.ior, 1) := by decide +kernel
theorem d_Sta_keepCarry_18 : decode b_Sta_keepCarry 18 = .ok (.goto 12, 3) := by decide +kernel
theorem d_Sta_keepCarry_21 : decode b_Sta_keepCarry 21 = .ok (.aload_n 0, 1) := by decide +kernel
theorem d_Sta_keepCarry_22 : decode b_Sta_keepCarry 22 = .ok (.getfield 15, 3) := by decide +kernel
theorem d_Sta_keepCarry_25 : decode b_Sta_keepCarry 25 = .ok (.iconst 3, 1) := by decide +kernel
theorem d_Sta_keepCarry_26 : decode b_Sta_keepCarry 26 = .ok (.iaload, 1) := by decide +kernel
theorem d_Sta_keepCarry_27 : decode b_Sta_keepCarry 27 = .ok (.ldc 47, 2) := by decide +kernel
theorem d_Sta_keepCarry_29 : decode b_Sta_keepCarry 29 = .ok (.iand, 1) := by decide +kernel
theorem d_Sta_keepCarry_30 : decode b_Sta_keepCarry 30 = .ok (.iastore, 1) := by decide +kernel
theorem d_Sta_keepCarry_31 : decode b_Sta_keepCarry 31 = .ok (.return_, 1) := by decide +kernel
def f_Sta_keepCarry (p0 : Int32) (sp : Nat → Int32) : (Nat → Int32) :=
  (upd sp 3 (if p0 = (0 : Int32) then ((sp 3) &&& (-536870913 : Int32)) else ((sp 3) ||| (536870912 : Int32))))
set_option maxHeartbeats 4000000 in
set_option maxRecDepth 100000 in
theorem c_Sta_keepCarry (l : Launch) (D : va_G) (aS aG aX : Nat) (cG cX : ClassId) (g : Nat → Int32) (sp : Nat → Int32) (nx : Int32) (lt : Int32) (sm : Int32) (ex : Int32) (p0 : Int32) : kMv l y_Sta_keepCarry b_Sta_keepCarry 2 none 0 0 D kCl [(cG, .int), (cX, .int)] [.ref aS, .int p0] [(aS, .inr (9, [.ref aG, .ref aX, .int nx, .int lt, .int sm, .int ex])), (aG, .inl (cG, 32, .inl g)), (aX, .inl (cX, 64, .inl sp))] [(aS, .inr (9, [.ref aG, .ref aX, .int nx, .int lt, .int sm, .int ex])), (aG, .inl (cG, 32, .inl g)), (aX, .inl (cX, 64, .inl (f_Sta_keepCarry p0 sp)))] := by
  refine k_entry (Qc := fun A => kQv D kCl [(cG, .int), (cX, .int)] [(aS, .inr (9, [.ref aG, .ref aX, .int nx, .int lt, .int sm, .int ex])), (aG, .inl (cG, 32, .inl g)), (aX, .inl (cX, 64, .inl (f_Sta_keepCarry p0 sp)))] A) (lv := [(0, .ref aS), (1, .int p0)]) (by decide) (Nat.le_of_ble_eq_true rfl) rfl ?_
  intro p e s m below meth c A ls hx hb hr hml hB hown hlocks hin hA hK hN hP hD hS hl
  have hown : s.vm.findClass "MappedProcessor$State" = some m.cls := hown
  refine lv_aload_n hx hb d_Sta_keepCarry_0 rfl (lv_at hl 0 rfl) ?_
  refine va_get (D := D) (ci := 9) (v := .ref aX) (C := "MappedProcessor$State") (T := T_Sta) (N := 6) hx hb hB iw_Sta hown hK hP 0 rfl rfl 1 (by decide) (hB _ mw_40) (fun _ h9 => h9) rfl d_Sta_keepCarry_1 ?_
  refine lv_iconst (v := (3 : Int32)) hx hb d_Sta_keepCarry_4 (by decide) ?_
  refine lv_iload_n hx hb d_Sta_keepCarry_5 rfl (lv_at hl 1 rfl) ?_
  refine k_join2 (c0 := p0 = (0 : Int32)) (x1 := ((sp 3) &&& (-536870913 : Int32))) (x2 := ((sp 3) ||| (536870912 : Int32))) (rest := [.int (3 : Int32), .ref aX]) 30 ?_ (fun k2 k3 => ?_)
  rotate_left
  · refine lv_if_eq (tgt := 21) hx hb d_Sta_keepCarry_6 (by decide) (fun (h1 : p0 = (0 : Int32)) => ?_) (fun (h1 : ¬ p0 = (0 : Int32)) => ?_)
    · refine lv_aload_n hx hb d_Sta_keepCarry_21 rfl (lv_at hl 0 rfl) ?_
      refine va_get (D := D) (ci := 9) (v := .ref aX) (C := "MappedProcessor$State") (T := T_Sta) (N := 6) hx hb hB iw_Sta hown hK hP 0 rfl rfl 1 (by decide) (hB _ mw_40) (fun _ h9 => h9) rfl d_Sta_keepCarry_22 ?_
      refine lv_iconst (v := (3 : Int32)) hx hb d_Sta_keepCarry_25 (by decide) ?_
      refine k_iald (j := 3) hx hb hK hP 2 1 rfl rfl (by decide) (by unfold vp_in; decide) d_Sta_keepCarry_26 ?_
      refine lv_ldc (v := (-536870913 : Int32)) hx hb hown (hB _ mw_412) d_Sta_keepCarry_27 ?_
      refine lv_iand hx hb d_Sta_keepCarry_29 ?_
      exact k2 h1
    · refine lv_aload_n hx hb d_Sta_keepCarry_9 rfl (lv_at hl 0 rfl) ?_
      refine va_get (D := D) (ci := 9) (v := .ref aX) (C := "MappedProcessor$State") (T := T_Sta) (N := 6) hx hb hB iw_Sta hown hK hP 0 rfl rfl 1 (by decide) (hB _ mw_40) (fun _ h9 => h9) rfl d_Sta_keepCarry_10 ?_
      refine lv_iconst (v := (3 : Int32)) hx hb d_Sta_keepCarry_13 (by decide) ?_
      refine k_iald (j := 3) hx hb hK hP 2 1 rfl rfl (by decide) (by unfold vp_in; decide) d_Sta_keepCarry_14 ?_
      refine lv_ldc (v := (536870912 : Int32)) hx hb hown (hB _ mw_411) d_Sta_keepCarry_15 ?_
      refine lv_ior hx hb d_Sta_keepCarry_17 ?_
      refine lv_goto (tgt := 30) hx hb d_Sta_keepCarry_18 (by decide) ?_
      exact k3 h1
  refine k_iast (j := 3) hx hb hK hP hD hS 2 1 rfl rfl (by decide) (by unfold vp_in; decide) d_Sta_keepCarry_30 (fun H locs hP hD hS => ?_)
  have hP : va_P D kCl [(aS, .inr (9, [.ref aG, .ref aX, .int nx, .int lt, .int sm, .int ex])), (aG, .inl (cG, 32, .inl g)), (aX, .inl (cX, 64, .inl (upd sp 3 (if p0 = (0 : Int32) then ((sp 3) &&& (-536870913 : Int32)) else ((sp 3) ||| (536870912 : Int32))))))] H := hP
  have hD : va_D A [(aS, .inr (9, [.ref aG, .ref aX, .int nx, .int lt, .int sm, .int ex])), (aG, .inl (cG, 32, .inl g)), (aX, .inl (cX, 64, .inl (upd sp 3 (if p0 = (0 : Int32) then ((sp 3) &&& (-536870913 : Int32)) else ((sp 3) ||| (536870912 : Int32))))))] := hD
  have ef : f_Sta_keepCarry p0 sp = (upd sp 3 (if p0 = (0 : Int32) then ((sp 3) &&& (-536870913 : Int32)) else ((sp 3) ||| (536870912 : Int32)))) := rfl
  exact k_vret hx hb hr hlocks hK hP hD hS [0, 1, 2] rfl (by rw [ef] <;> rfl) d_Sta_keepCarry_31
/-! MappedProcessor$State.registerOrZero(I)I -/
theorem d_Sta_registerOrZero_0 : decode b_Sta_registerOrZero 0 = .ok (.iload_n 1, 1) := by decide +kernel
theorem d_Sta_registerOrZero_1 : decode b_Sta_registerOrZero 1 = .ok (.ifCond .ne 7, 3) := by decide +kernel
theorem d_Sta_registerOrZero_4 : decode b_Sta_registerOrZero 4 = .ok (.iconst 0, 1) := by decide +kernel
theorem d_Sta_registerOrZero_5 : decode b_Sta_registerOrZero 5 = .ok (.goto 8, 3) := by decide +kernel
theorem d_Sta_registerOrZero_8 : decode b_Sta_registerOrZero 8 = .ok (.aload_n 0, 1) := by decide +kernel
theorem d_Sta_registerOrZero_9 : decode b_Sta_registerOrZero 9 = .ok (.iload_n 1, 1) := by decide +kernel
theorem d_Sta_registerOrZero_10 : decode b_Sta_registerOrZero 10 = .ok (.invokevirtual 18, 3) := by decide +kernel
theorem d_Sta_registerOrZero_13 : decode b_Sta_registerOrZero 13 = .ok (.ireturn, 1) := by decide +kernel
def f_Sta_registerOrZero (p0 : Int32) (g : Nat → Int32) : Int32 :=
  if p0 = (0 : Int32) then
    (0 : Int32)
  else
    (f_Sta_register p0 g)
set_option maxHeartbeats 4000000 in
set_option maxRecDepth 100000 in
theorem c_Sta_registerOrZero (l : Launch) (D : va_G) (aS aG aX : Nat) (cG cX : ClassId) (g : Nat → Int32) (sp : Nat → Int32) (nx : Int32) (lt : Int32) (sm : Int32) (ex : Int32) (p0 : Int32) : kMi l y_Sta_registerOrZero b_Sta_registerOrZero 2 (some .int) 1 21 D kCl [(cG, .int), (cX, .int)] [.ref aS, .int p0] [(aS, .inr (9, [.ref aG, .ref aX, .int nx, .int lt, .int sm, .int ex])), (aG, .inl (cG, 32, .inl g)), (aX, .inl (cX, 64, .inl sp))] (f_Sta_registerOrZero p0 g) [(aS, .inr (9, [.ref aG, .ref aX, .int nx, .int lt, .int sm, .int ex])), (aG, .inl (cG, 32, .inl g)), (aX, .inl (cX, 64, .inl sp))] := by
  refine k_entry (Qc := fun A => kQi D kCl [(cG, .int), (cX, .int)] (f_Sta_registerOrZero p0 g) [(aS, .inr (9, [.ref aG, .ref aX, .int nx, .int lt, .int sm, .int ex])), (aG, .inl (cG, 32, .inl g)), (aX, .inl (cX, 64, .inl sp))] A) (lv := [(0, .ref aS), (1, .int p0)]) (by decide) (Nat.le_of_ble_eq_true rfl) rfl ?_
  intro p e s m below meth c A ls hx hb hr hml hB hown hlocks hin hA hK hN hP hD hS hl
  have hown : s.vm.findClass "MappedProcessor$State" = some m.cls := hown
  refine lv_iload_n hx hb d_Sta_registerOrZero_0 rfl (lv_at hl 1 rfl) ?_
  refine lv_if_ne (tgt := 8) hx hb d_Sta_registerOrZero_1 (by decide) (fun (h4 : ¬ p0 = (0 : Int32)) => ?_) (fun (h4 : p0 = (0 : Int32)) => ?_)
  · refine lv_aload_n hx hb d_Sta_registerOrZero_8 rfl (lv_at hl 0 rfl) ?_
    refine lv_iload_n hx hb d_Sta_registerOrZero_9 rfl (lv_at hl 1 rfl) ?_
    refine k_cVi (As := [.int p0]) (rest := []) (wr := []) (wj := [(aS, .inr (9, [.ref aG, .ref aX, .int nx, .int lt, .int sm, .int ex])), (aG, .inl (cG, 32, .inl g)), (aX, .inl (cX, 64, .inl sp))]) ⟨hx, hb, hml, hown, hB⟩ (c_Sta_register l D aS aG aX cG cX g sp nx lt sm ex p0) yl_Sta_register mw_417 hK hN hP hD hS hA [0, 1] [0, 1, 2] [] [0, 1, 2] rfl rfl rfl rfl (by decide +kernel) 0 rfl rfl rfl rfl hl.1 rfl (Nat.le_of_ble_eq_true rfl) ⟨Nat.le_of_ble_eq_true rfl, Nat.le_of_ble_eq_true rfl⟩ d_Sta_registerOrZero_10 ⟨Nat.le_of_ble_eq_true rfl, Nat.le_of_ble_eq_true rfl⟩ (fun H locs hP hD hS => ?_)
    have ef : f_Sta_registerOrZero p0 g = (f_Sta_register p0 g) := by unfold f_Sta_registerOrZero; rw [if_neg h4]
    exact k_iret hx hb hr hlocks hK hP hD hS [0, 1, 2] rfl rfl (by rw [ef] <;> rfl) d_Sta_registerOrZero_13
  · refine lv_iconst (v := (0 : Int32)) hx hb d_Sta_registerOrZero_4 (by decide) ?_
    refine lv_goto (tgt := 13) hx hb d_Sta_registerOrZero_5 (by decide) ?_
    have ef : f_Sta_registerOrZero p0 g = (0 : Int32) := by unfold f_Sta_registerOrZero; rw [if_pos h4]
    exact k_iret hx hb hr hlocks hK hP hD hS [0, 1, 2] rfl rfl (by rw [ef] <;> rfl) d_Sta_registerOrZero_13
/-! MappedProcessor$State.keepResult(IIZ)V -/
theorem d_Sta_keepResult_0 : decode b_Sta_keepResult 0 = .ok (.aload_n 0, 1) := by decide +kernel
theorem d_Sta_keepResult_1 : decode b_Sta_keepResult 1 = .ok (.getfield 9, 3) := by decide +kernel
theorem d_Sta_keepResult_4 : decode b_Sta_keepResult 4 = .ok (.iload_n 1, 1) := by decide +kernel
theorem d_Sta_keepResult_5 : decode b_Sta_keepResult 5 = .ok (.bipush 31, 2) := by decide +kernel
theorem d_Sta_keepResult_7 : decode b_Sta_keepResult 7 = .ok (.iand, 1) := by decide +kernel
theorem d_Sta_keepResult_8 : decode b_Sta_keepResult 8 = .ok (.iload_n 2, 1) := by decide +kernel
theorem d_Sta_keepResult_9 : decode b_Sta_keepResult 9 = .ok (.iastore, 1) := by decide +kernel
theorem d_Sta_keepResult_10 : decode b_Sta_keepResult 10 = .ok (.iload_n 3, 1) := by decide +kernel
theorem d_Sta_keepResult_11 : decode b_Sta_keepResult 11 = .ok (.ifCond .eq 9, 3) := by decide +kernel
theorem d_Sta_keepResult_14 : decode b_Sta_keepResult 14 = .ok (.aload_n 0, 1) := by decide +kernel
theorem d_Sta_keepResult_15 : decode b_Sta_keepResult 15 = .ok (.iconst 0, 1) := by decide +kernel
theorem d_Sta_keepResult_16 : decode b_Sta_keepResult 16 = .ok (.iload_n 2, 1) := by decide +kernel
theorem d_Sta_keepResult_17 : decode b_Sta_keepResult 17 = .ok (.invokevirtual 48, 3) := by decide +kernel
theorem d_Sta_keepResult_20 : decode b_Sta_keepResult 20 = .ok (.return_, 1) := by decide +kernel
def f_Sta_keepResult (p0 : Int32) (p1 : Int32) (p2 : Int32) (g : Nat → Int32) (sp : Nat → Int32) : (Nat → Int32) × (Nat → Int32) :=
  if p2 = (0 : Int32) then
    ((upd g (ix (p0 &&& (31 : Int32))) p1), sp)
  else
    ((upd g (ix (p0 &&& (31 : Int32))) p1), (f_Sta_keepOrder (0 : Int32) p1 sp))
set_option maxHeartbeats 4000000 in
set_option maxRecDepth 100000 in
theorem c_Sta_keepResult (l : Launch) (D : va_G) (aS aG aX : Nat) (cG cX : ClassId) (g : Nat → Int32) (sp : Nat → Int32) (nx : Int32) (lt : Int32) (sm : Int32) (ex : Int32) (p0 : Int32) (p1 : Int32) (p2 : Int32) : kMv l y_Sta_keepResult b_Sta_keepResult 4 none 1 28 D kCl [(cG, .int), (cX, .int)] [.ref aS, .int p0, .int p1, .int p2] [(aS, .inr (9, [.ref aG, .ref aX, .int nx, .int lt, .int sm, .int ex])), (aG, .inl (cG, 32, .inl g)), (aX, .inl (cX, 64, .inl sp))] [(aS, .inr (9, [.ref aG, .ref aX, .int nx, .int lt, .int sm, .int ex])), (aG, .inl (cG, 32, .inl (f_Sta_keepResult p0 p1 p2 g sp).1)), (aX, .inl (cX, 64, .inl (f_Sta_keepResult p0 p1 p2 g sp).2))] := by
  refine k_entry (Qc := fun A => kQv D kCl [(cG, .int), (cX, .int)] [(aS, .inr (9, [.ref aG, .ref aX, .int nx, .int lt, .int sm, .int ex])), (aG, .inl (cG, 32, .inl (f_Sta_keepResult p0 p1 p2 g sp).1)), (aX, .inl (cX, 64, .inl (f_Sta_keepResult p0 p1 p2 g sp).2))] A) (lv := [(0, .ref aS), (1, .int p0), (2, .int p1), (3, .int p2)]) (by decide) (Nat.le_of_ble_eq_true rfl) rfl ?_
  intro p e s m below meth c A ls hx hb hr hml hB hown hlocks hin hA hK hN hP hD hS hl
  have hown : s.vm.findClass "MappedProcessor$State" = some m.cls := hown
  refine lv_aload_n hx hb d_Sta_keepResult_0 rfl (lv_at hl 0 rfl) ?_
  refine va_get (D := D) (ci := 9) (v := .ref aG) (C := "MappedProcessor$State") (T := T_Sta) (N := 6) hx hb hB iw_Sta hown hK hP 0 rfl rfl 0 (by decide) (hB _ mw_39) (fun _ h9 => h9) rfl d_Sta_keepResult_1 ?_
  refine lv_iload_n hx hb d_Sta_keepResult_4 rfl (lv_at hl 1 rfl) ?_
  refine lv_bipush (v := (31 : Int32)) hx hb d_Sta_keepResult_5 (by decide) ?_
  refine lv_iand hx hb d_Sta_keepResult_7 ?_
  refine lv_iload_n hx hb d_Sta_keepResult_8 rfl (lv_at hl 2 rfl) ?_
  refine k_iast (j := (ix (p0 &&& (31 : Int32)))) hx hb hK hP hD hS 1 0 rfl rfl rfl (ix32 _) d_Sta_keepResult_9 (fun H locs hP hD hS => ?_)
  have hP : va_P D kCl [(aS, .inr (9, [.ref aG, .ref aX, .int nx, .int lt, .int sm, .int ex])), (aG, .inl (cG, 32, .inl (upd g (ix (p0 &&& (31 : Int32))) p1))), (aX, .inl (cX, 64, .inl sp))] H := hP
  have hD : va_D A [(aS, .inr (9, [.ref aG, .ref aX, .int nx, .int lt, .int sm, .int ex])), (aG, .inl (cG, 32, .inl (upd g (ix (p0 &&& (31 : Int32))) p1))), (aX, .inl (cX, 64, .inl sp))] := hD
  refine lv_iload_n hx hb d_Sta_keepResult_10 rfl (lv_at hl 3 rfl) ?_
  refine lv_if_eq (tgt := 20) hx hb d_Sta_keepResult_11 (by decide) (fun (h4 : p2 = (0 : Int32)) => ?_) (fun (h4 : ¬ p2 = (0 : Int32)) => ?_)
  · have ef : f_Sta_keepResult p0 p1 p2 g sp = ((upd g (ix (p0 &&& (31 : Int32))) p1), sp) := by unfold f_Sta_keepResult; rw [if_pos h4]
    exact k_vret hx hb hr hlocks hK hP hD hS [0, 1, 2] rfl (by rw [ef] <;> rfl) d_Sta_keepResult_20
  · refine lv_aload_n hx hb d_Sta_keepResult_14 rfl (lv_at hl 0 rfl) ?_
    refine lv_iconst (v := (0 : Int32)) hx hb d_Sta_keepResult_15 (by decide) ?_
    refine lv_iload_n hx hb d_Sta_keepResult_16 rfl (lv_at hl 2 rfl) ?_
    refine k_cVv (As := [.int (0 : Int32), .int p1]) (rest := []) (wr := []) (wj := [(aS, .inr (9, [.ref aG, .ref aX, .int nx, .int lt, .int sm, .int ex])), (aG, .inl (cG, 32, .inl (upd g (ix (p0 &&& (31 : Int32))) p1))), (aX, .inl (cX, 64, .inl (f_Sta_keepOrder (0 : Int32) p1 sp)))]) ⟨hx, hb, hml, hown, hB⟩ (c_Sta_keepOrder l D aS aG aX cG cX (upd g (ix (p0 &&& (31 : Int32))) p1) sp nx lt sm ex (0 : Int32) p1) yl_Sta_keepOrder mw_423 hK hN hP hD hS hA [0, 1] [0, 1, 2] [] [0, 1, 2] rfl rfl rfl rfl (by decide +kernel) 0 rfl rfl rfl rfl hl.1 rfl (Nat.le_of_ble_eq_true rfl) ⟨Nat.le_of_ble_eq_true rfl, Nat.le_of_ble_eq_true rfl⟩ d_Sta_keepResult_17 ⟨Nat.le_of_ble_eq_true rfl, Nat.le_of_ble_eq_true rfl⟩ (fun H locs hP hD hS => ?_)
    have ef : f_Sta_keepResult p0 p1 p2 g sp = ((upd g (ix (p0 &&& (31 : Int32))) p1), (f_Sta_keepOrder (0 : Int32) p1 sp)) := by unfold f_Sta_keepResult; rw [if_neg h4]
    exact k_vret hx hb hr hlocks hK hP hD hS [0, 1, 2] rfl (by rw [ef] <;> rfl) d_Sta_keepResult_20
/-! MappedProcessor$State.conditionBit(I)I -/
theorem d_Sta_conditionBit_0 : decode b_Sta_conditionBit 0 = .ok (.aload_n 0, 1) := by decide +kernel
theorem d_Sta_conditionBit_1 : decode b_Sta_conditionBit 1 = .ok (.getfield 15, 3) := by decide +kernel
theorem d_Sta_conditionBit_4 : decode b_Sta_conditionBit 4 = .ok (.iconst 2, 1) := by decide +kernel
theorem d_Sta_conditionBit_5 : decode b_Sta_conditionBit 5 = .ok (.iaload, 1) := by decide +kernel
theorem d_Sta_conditionBit_6 : decode b_Sta_conditionBit 6 = .ok (.bipush 31, 2) := by decide +kernel
theorem d_Sta_conditionBit_8 : decode b_Sta_conditionBit 8 = .ok (.iload_n 1, 1) := by decide +kernel
theorem d_Sta_conditionBit_9 : decode b_Sta_conditionBit 9 = .ok (.isub, 1) := by decide +kernel
theorem d_Sta_conditionBit_10 : decode b_Sta_conditionBit 10 = .ok (.iushr, 1) := by decide +kernel
theorem d_Sta_conditionBit_11 : decode b_Sta_conditionBit 11 = .ok (.iconst 1, 1) := by decide +kernel
theorem d_Sta_conditionBit_12 : decode b_Sta_conditionBit 12 = .ok (.iand, 1) := by decide +kernel
theorem d_Sta_conditionBit_13 : decode b_Sta_conditionBit 13 = .ok (.ireturn, 1) := by decide +kernel
def f_Sta_conditionBit (p0 : Int32) (sp : Nat → Int32) : Int32 :=
  ((ush (sp 2) ((31 : Int32) - p0)) &&& (1 : Int32))
set_option maxHeartbeats 4000000 in
set_option maxRecDepth 100000 in
theorem c_Sta_conditionBit (l : Launch) (D : va_G) (aS aG aX : Nat) (cG cX : ClassId) (g : Nat → Int32) (sp : Nat → Int32) (nx : Int32) (lt : Int32) (sm : Int32) (ex : Int32) (p0 : Int32) : kMi l y_Sta_conditionBit b_Sta_conditionBit 2 (some .int) 0 0 D kCl [(cG, .int), (cX, .int)] [.ref aS, .int p0] [(aS, .inr (9, [.ref aG, .ref aX, .int nx, .int lt, .int sm, .int ex])), (aG, .inl (cG, 32, .inl g)), (aX, .inl (cX, 64, .inl sp))] (f_Sta_conditionBit p0 sp) [(aS, .inr (9, [.ref aG, .ref aX, .int nx, .int lt, .int sm, .int ex])), (aG, .inl (cG, 32, .inl g)), (aX, .inl (cX, 64, .inl sp))] := by
  refine k_entry (Qc := fun A => kQi D kCl [(cG, .int), (cX, .int)] (f_Sta_conditionBit p0 sp) [(aS, .inr (9, [.ref aG, .ref aX, .int nx, .int lt, .int sm, .int ex])), (aG, .inl (cG, 32, .inl g)), (aX, .inl (cX, 64, .inl sp))] A) (lv := [(0, .ref aS), (1, .int p0)]) (by decide) (Nat.le_of_ble_eq_true rfl) rfl ?_
  intro p e s m below meth c A ls hx hb hr hml hB hown hlocks hin hA hK hN hP hD hS hl
  have hown : s.vm.findClass "MappedProcessor$State" = some m.cls := hown
  refine lv_aload_n hx hb d_Sta_conditionBit_0 rfl (lv_at hl 0 rfl) ?_
  refine va_get (D := D) (ci := 9) (v := .ref aX) (C := "MappedProcessor$State") (T := T_Sta) (N := 6) hx hb hB iw_Sta hown hK hP 0 rfl rfl 1 (by decide) (hB _ mw_40) (fun _ h9 => h9) rfl d_Sta_conditionBit_1 ?_
  refine lv_iconst (v := (2 : Int32)) hx hb d_Sta_conditionBit_4 (by decide) ?_
  refine k_iald (j := 2) hx hb hK hP 2 1 rfl rfl (by decide) (by unfold vp_in; decide) d_Sta_conditionBit_5 ?_
  refine lv_bipush (v := (31 : Int32)) hx hb d_Sta_conditionBit_6 (by decide) ?_
  refine lv_iload_n hx hb d_Sta_conditionBit_8 rfl (lv_at hl 1 rfl) ?_
  refine lv_isub hx hb d_Sta_conditionBit_9 ?_
  refine lv_iushr (v := (ush (sp 2) ((31 : Int32) - p0))) hx hb d_Sta_conditionBit_10 rfl ?_
  refine lv_iconst (v := (1 : Int32)) hx hb d_Sta_conditionBit_11 (by decide) ?_
  refine lv_iand hx hb d_Sta_conditionBit_12 ?_
  have ef : f_Sta_conditionBit p0 sp = ((ush (sp 2) ((31 : Int32) - p0)) &&& (1 : Int32)) := rfl
  exact k_iret hx hb hr hlocks hK hP hD hS [0, 1, 2] rfl rfl (by rw [ef] <;> rfl) d_Sta_conditionBit_13
/-! MappedProcessor$Instruction.has(I)Z -/
theorem d_Ins_has_0 : decode b_Ins_has 0 = .ok (.aload_n 0, 1) := by decide +kernel
theorem d_Ins_has_1 : decode b_Ins_has 1 = .ok (.getfield 9, 3) := by decide +kernel
theorem d_Ins_has_4 : decode b_Ins_has 4 = .ok (.iload_n 1, 1) := by decide +kernel
theorem d_Ins_has_5 : decode b_Ins_has 5 = .ok (.iand, 1) := by decide +kernel
theorem d_Ins_has_6 : decode b_Ins_has 6 = .ok (.ifCond .eq 7, 3) := by decide +kernel
theorem d_Ins_has_9 : decode b_Ins_has 9 = .ok (.iconst 1, 1) := by decide +kernel
theorem d_Ins_has_10 : decode b_Ins_has 10 = .ok (.goto 4, 3) := by decide +kernel
theorem d_Ins_has_13 : decode b_Ins_has 13 = .ok (.iconst 0, 1) := by decide +kernel
theorem d_Ins_has_14 : decode b_Ins_has 14 = .ok (.ireturn, 1) := by decide +kernel
def f_Ins_has (p0 : Int32) (iw : Int32) : Int32 :=
  (if (iw &&& p0) = (0 : Int32) then (0 : Int32) else (1 : Int32))
set_option maxHeartbeats 4000000 in
set_option maxRecDepth 100000 in
theorem ib_Ins_has (p0 : Int32) (iw : Int32) : isB (f_Ins_has p0 iw) := by
  unfold f_Ins_has
  try dsimp only
  repeat' (first | refine ib_ite ?_ ?_ | refine ib_ite0 ?_ ?_ | with_reducible exact ib0 | with_reducible exact ib1 | (dsimp only; first | exact ib0 | exact ib1))
theorem nb_Ins_has (p0 : Int32) (iw : Int32) : narrow .boolean (.int (f_Ins_has p0 iw)) = .int (f_Ins_has p0 iw) := nb_of (ib_Ins_has p0 iw)
set_option maxHeartbeats 4000000 in
set_option maxRecDepth 100000 in
theorem c_Ins_has (l : Launch) (D : va_G) (aI : Nat) (iw : Int32) (io : Int32) (id : Int32) (ia : Int32) (ib : Int32) (ii : Int32) (is : Int32) (iu : Int32) (p0 : Int32) : kMi l y_Ins_has b_Ins_has 2 (some .boolean) 0 0 D kCl [] [.ref aI, .int p0] [(aI, .inr (5, [.int iw, .int io, .int id, .int ia, .int ib, .int ii, .int is, .int iu]))] (f_Ins_has p0 iw) [(aI, .inr (5, [.int iw, .int io, .int id, .int ia, .int ib, .int ii, .int is, .int iu]))] := by
  refine k_entry (Qc := fun A => kQi D kCl [] (f_Ins_has p0 iw) [(aI, .inr (5, [.int iw, .int io, .int id, .int ia, .int ib, .int ii, .int is, .int iu]))] A) (lv := [(0, .ref aI), (1, .int p0)]) (by decide) (Nat.le_of_ble_eq_true rfl) rfl ?_
  intro p e s m below meth c A ls hx hb hr hml hB hown hlocks hin hA hK hN hP hD hS hl
  have hown : s.vm.findClass "MappedProcessor$Instruction" = some m.cls := hown
  refine lv_aload_n hx hb d_Ins_has_0 rfl (lv_at hl 0 rfl) ?_
  refine va_get (D := D) (ci := 5) (v := .int iw) (C := "MappedProcessor$Instruction") (T := T_Ins) (N := 8) hx hb hB iw_Ins hown hK hP 0 rfl rfl 0 (by decide) (hB _ mw_80) (fun _ h9 => h9) rfl d_Ins_has_1 ?_
  refine lv_iload_n hx hb d_Ins_has_4 rfl (lv_at hl 1 rfl) ?_
  refine lv_iand hx hb d_Ins_has_5 ?_
  refine k_join2 (c0 := (iw &&& p0) = (0 : Int32)) (x1 := (0 : Int32)) (x2 := (1 : Int32)) (rest := []) 14 ?_ (fun k2 k3 => ?_)
  rotate_left
  · refine lv_if_eq (tgt := 13) hx hb d_Ins_has_6 (by decide) (fun (h1 : (iw &&& p0) = (0 : Int32)) => ?_) (fun (h1 : ¬ (iw &&& p0) = (0 : Int32)) => ?_)
    · refine lv_iconst (v := (0 : Int32)) hx hb d_Ins_has_13 (by decide) ?_
      exact k2 h1
    · refine lv_iconst (v := (1 : Int32)) hx hb d_Ins_has_9 (by decide) ?_
      refine lv_goto (tgt := 14) hx hb d_Ins_has_10 (by decide) ?_
      exact k3 h1
  have ef : f_Ins_has p0 iw = (if (iw &&& p0) = (0 : Int32) then (0 : Int32) else (1 : Int32)) := rfl
  exact k_zret hx hb hr hlocks hK hP hD hS [0] rfl rfl (by rw [ef] <;> rfl) (nb_ite nb0 nb1) d_Ins_has_14
/-! MappedProcessor$State.goTo(I)V -/
theorem d_Sta_goTo_0 : decode b_Sta_goTo 0 = .ok (.aload_n 0, 1) := by decide +kernel
theorem d_Sta_goTo_1 : decode b_Sta_goTo 1 = .ok (.iload_n 1, 1) := by decide +kernel
theorem d_Sta_goTo_2 : decode b_Sta_goTo 2 = .ok (.putfield 32, 3) := by decide +kernel
theorem d_Sta_goTo_5 : decode b_Sta_goTo 5 = .ok (.return_, 1) := by decide +kernel
def f_Sta_goTo (p0 : Int32) : Int32 :=
  p0
set_option maxHeartbeats 4000000 in
set_option maxRecDepth 100000 in
theorem c_Sta_goTo (l : Launch) (D : va_G) (aS aG aX : Nat) (cG cX : ClassId) (g : Nat → Int32) (sp : Nat → Int32) (nx : Int32) (lt : Int32) (sm : Int32) (ex : Int32) (p0 : Int32) : kMv l y_Sta_goTo b_Sta_goTo 2 none 0 0 D kCl [(cG, .int), (cX, .int)] [.ref aS, .int p0] [(aS, .inr (9, [.ref aG, .ref aX, .int nx, .int lt, .int sm, .int ex])), (aG, .inl (cG, 32, .inl g)), (aX, .inl (cX, 64, .inl sp))] [(aS, .inr (9, [.ref aG, .ref aX, .int (f_Sta_goTo p0), .int lt, .int sm, .int ex])), (aG, .inl (cG, 32, .inl g)), (aX, .inl (cX, 64, .inl sp))] := by
  refine k_entry (Qc := fun A => kQv D kCl [(cG, .int), (cX, .int)] [(aS, .inr (9, [.ref aG, .ref aX, .int (f_Sta_goTo p0), .int lt, .int sm, .int ex])), (aG, .inl (cG, 32, .inl g)), (aX, .inl (cX, 64, .inl sp))] A) (lv := [(0, .ref aS), (1, .int p0)]) (by decide) (Nat.le_of_ble_eq_true rfl) rfl ?_
  intro p e s m below meth c A ls hx hb hr hml hB hown hlocks hin hA hK hN hP hD hS hl
  have hown : s.vm.findClass "MappedProcessor$State" = some m.cls := hown
  refine lv_aload_n hx hb d_Sta_goTo_0 rfl (lv_at hl 0 rfl) ?_
  refine lv_iload_n hx hb d_Sta_goTo_1 rfl (lv_at hl 1 rfl) ?_
  refine va_put (D := D) (ci := 9) (v := .int p0) (ty := .int) (C := "MappedProcessor$State") (T := T_Sta) (N := 6) hx hb hB iw_Sta ty_Sta ty_Sta_ok nm_Sta hown hK hP hD hS 0 rfl rfl 2 (by decide) (hB _ mw_41) (fun _ h9 => h9) rfl (by decide +kernel) rfl rfl (Nat.le_of_ble_eq_true rfl) d_Sta_goTo_2 (fun H locs hP hD hS => ?_)
  have hP : va_P D kCl [(aS, .inr (9, [.ref aG, .ref aX, .int p0, .int lt, .int sm, .int ex])), (aG, .inl (cG, 32, .inl g)), (aX, .inl (cX, 64, .inl sp))] H := hP
  have hD : va_D A [(aS, .inr (9, [.ref aG, .ref aX, .int p0, .int lt, .int sm, .int ex])), (aG, .inl (cG, 32, .inl g)), (aX, .inl (cX, 64, .inl sp))] := hD
  have ef : f_Sta_goTo p0 = p0 := rfl
  exact k_vret hx hb hr hlocks hK hP hD hS [0, 1, 2] rfl (by rw [ef] <;> rfl) d_Sta_goTo_5
/-! MappedProcessor$State.refusesPrivileged()Z -/
theorem d_Sta_refusesPrivileged_0 : decode b_Sta_refusesPrivileged 0 = .ok (.aload_n 0, 1) := by decide +kernel
theorem d_Sta_refusesPrivileged_1 : decode b_Sta_refusesPrivileged 1 = .ok (.iconst 1, 1) := by decide +kernel
theorem d_Sta_refusesPrivileged_2 : decode b_Sta_refusesPrivileged 2 = .ok (.sipush 16384, 3) := by decide +kernel
theorem d_Sta_refusesPrivileged_5 : decode b_Sta_refusesPrivileged 5 = .ok (.invokevirtual 37, 3) := by decide +kernel
theorem d_Sta_refusesPrivileged_8 : decode b_Sta_refusesPrivileged 8 = .ok (.ifCond .ne 5, 3) := by decide +kernel
theorem d_Sta_refusesPrivileged_11 : decode b_Sta_refusesPrivileged 11 = .ok (.iconst 0, 1) := by decide +kernel
theorem d_Sta_refusesPrivileged_12 : decode b_Sta_refusesPrivileged 12 = .ok (.ireturn, 1) := by decide +kernel
theorem d_Sta_refusesPrivileged_13 : decode b_Sta_refusesPrivileged 13 = .ok (.aload_n 0, 1) := by decide +kernel
theorem d_Sta_refusesPrivileged_14 : decode b_Sta_refusesPrivileged 14 = .ok (.sipush 1792, 3) := by decide +kernel
theorem d_Sta_refusesPrivileged_17 : decode b_Sta_refusesPrivileged 17 = .ok (.ldc 41, 2) := by decide +kernel
theorem d_Sta_refusesPrivileged_19 : decode b_Sta_refusesPrivileged 19 = .ok (.invokevirtual 42, 3) := by decide +kernel
theorem d_Sta_refusesPrivileged_22 : decode b_Sta_refusesPrivileged 22 = .ok (.iconst 1, 1) := by decide +kernel
theorem d_Sta_refusesPrivileged_23 : decode b_Sta_refusesPrivileged 23 = .ok (.ireturn, 1) := by decide +kernel
def f_Sta_refusesPrivileged (sp : Nat → Int32) (nx : Int32) (lt : Int32) (ex : Int32) : Int32 × (Nat → Int32) × Int32 × Int32 × Int32 :=
  if (f_Sta_has (1 : Int32) (16384 : Int32) sp) = (0 : Int32) then
    ((0 : Int32), sp, nx, lt, ex)
  else
    let t2 := (f_Sta_raise (1792 : Int32) (262144 : Int32) sp ex)
    ((1 : Int32), t2.1, t2.2.1, t2.2.2.1, t2.2.2.2)
set_option maxHeartbeats 4000000 in
set_option maxRecDepth 100000 in
theorem ib_Sta_refusesPrivileged (sp : Nat → Int32) (nx : Int32) (lt : Int32) (ex : Int32) : isB (f_Sta_refusesPrivileged sp nx lt ex).1 := by
  unfold f_Sta_refusesPrivileged
  try dsimp only
  repeat' (first | refine ib_ite ?_ ?_ | refine ib_ite0 ?_ ?_ | with_reducible exact ib0 | with_reducible exact ib1 | with_reducible exact ib_Sta_has _ _ _ | (dsimp only; first | exact ib0 | exact ib1))
theorem nb_Sta_refusesPrivileged (sp : Nat → Int32) (nx : Int32) (lt : Int32) (ex : Int32) : narrow .boolean (.int (f_Sta_refusesPrivileged sp nx lt ex).1) = .int (f_Sta_refusesPrivileged sp nx lt ex).1 := nb_of (ib_Sta_refusesPrivileged sp nx lt ex)
set_option maxHeartbeats 4000000 in
set_option maxRecDepth 100000 in
theorem c_Sta_refusesPrivileged (l : Launch) (D : va_G) (aS aG aX : Nat) (cG cX : ClassId) (g : Nat → Int32) (sp : Nat → Int32) (nx : Int32) (lt : Int32) (sm : Int32) (ex : Int32) : kMi l y_Sta_refusesPrivileged b_Sta_refusesPrivileged 1 (some .boolean) 1 22 D kCl [(cG, .int), (cX, .int)] [.ref aS] [(aS, .inr (9, [.ref aG, .ref aX, .int nx, .int lt, .int sm, .int ex])), (aG, .inl (cG, 32, .inl g)), (aX, .inl (cX, 64, .inl sp))] (f_Sta_refusesPrivileged sp nx lt ex).1 [(aS, .inr (9, [.ref aG, .ref aX, .int (f_Sta_refusesPrivileged sp nx lt ex).2.2.1, .int (f_Sta_refusesPrivileged sp nx lt ex).2.2.2.1, .int sm, .int (f_Sta_refusesPrivileged sp nx lt ex).2.2.2.2])), (aG, .inl (cG, 32, .inl g)), (aX, .inl (cX, 64, .inl (f_Sta_refusesPrivileged sp nx lt ex).2.1))] := by
  refine k_entry (Qc := fun A => kQi D kCl [(cG, .int), (cX, .int)] (f_Sta_refusesPrivileged sp nx lt ex).1 [(aS, .inr (9, [.ref aG, .ref aX, .int (f_Sta_refusesPrivileged sp nx lt ex).2.2.1, .int (f_Sta_refusesPrivileged sp nx lt ex).2.2.2.1, .int sm, .int (f_Sta_refusesPrivileged sp nx lt ex).2.2.2.2])), (aG, .inl (cG, 32, .inl g)), (aX, .inl (cX, 64, .inl (f_Sta_refusesPrivileged sp nx lt ex).2.1))] A) (lv := [(0, .ref aS)]) (by decide) (Nat.le_of_ble_eq_true rfl) rfl ?_
  intro p e s m below meth c A ls hx hb hr hml hB hown hlocks hin hA hK hN hP hD hS hl
  have hown : s.vm.findClass "MappedProcessor$State" = some m.cls := hown
  refine lv_aload_n hx hb d_Sta_refusesPrivileged_0 rfl (lv_at hl 0 rfl) ?_
  refine lv_iconst (v := (1 : Int32)) hx hb d_Sta_refusesPrivileged_1 (by decide) ?_
  refine lv_sipush (v := (16384 : Int32)) hx hb d_Sta_refusesPrivileged_2 (by decide) ?_
  refine k_cVi (As := [.int (1 : Int32), .int (16384 : Int32)]) (rest := []) (wr := []) (wj := [(aS, .inr (9, [.ref aG, .ref aX, .int nx, .int lt, .int sm, .int ex])), (aG, .inl (cG, 32, .inl g)), (aX, .inl (cX, 64, .inl sp))]) ⟨hx, hb, hml, hown, hB⟩ (c_Sta_has l D aS aG aX cG cX g sp nx lt sm ex (1 : Int32) (16384 : Int32)) yl_Sta_has mw_471 hK hN hP hD hS hA [0, 1] [0, 1, 2] [] [0, 1, 2] rfl rfl rfl rfl (by decide +kernel) 0 rfl rfl rfl rfl hl.1 rfl (Nat.le_of_ble_eq_true rfl) ⟨Nat.le_of_ble_eq_true rfl, Nat.le_of_ble_eq_true rfl⟩ d_Sta_refusesPrivileged_5 ⟨Nat.le_of_ble_eq_true rfl, Nat.le_of_ble_eq_true rfl⟩ (fun H locs hP hD hS => ?_)
  refine lv_if_ne (tgt := 13) hx hb d_Sta_refusesPrivileged_8 (by decide) (fun (h1 : ¬ (f_Sta_has (1 : Int32) (16384 : Int32) sp) = (0 : Int32)) => ?_) (fun (h1 : (f_Sta_has (1 : Int32) (16384 : Int32) sp) = (0 : Int32)) => ?_)
  · refine lv_aload_n hx hb d_Sta_refusesPrivileged_13 rfl (lv_at hl 0 rfl) ?_
    refine lv_sipush (v := (1792 : Int32)) hx hb d_Sta_refusesPrivileged_14 (by decide) ?_
    refine lv_ldc (v := (262144 : Int32)) hx hb hown (hB _ mw_472) d_Sta_refusesPrivileged_17 ?_
    let t2 := (f_Sta_raise (1792 : Int32) (262144 : Int32) sp ex)
    refine k_cVv (As := [.int (1792 : Int32), .int (262144 : Int32)]) (rest := []) (wr := []) (wj := [(aS, .inr (9, [.ref aG, .ref aX, .int t2.2.1, .int t2.2.2.1, .int sm, .int t2.2.2.2])), (aG, .inl (cG, 32, .inl g)), (aX, .inl (cX, 64, .inl t2.1))]) ⟨hx, hb, hml, hown, hB⟩ (c_Sta_raise l D aS aG aX cG cX g sp nx lt sm ex (1792 : Int32) (262144 : Int32)) yl_Sta_raise mw_473 hK hN hP hD hS hA [0, 1] [0, 1, 2] [] [0, 1, 2] rfl rfl rfl rfl (by decide +kernel) 0 rfl rfl rfl rfl hl.1 rfl (Nat.le_of_ble_eq_true rfl) ⟨Nat.le_of_ble_eq_true rfl, Nat.le_of_ble_eq_true rfl⟩ d_Sta_refusesPrivileged_19 ⟨Nat.le_of_ble_eq_true rfl, Nat.le_of_ble_eq_true rfl⟩ (fun H locs hP hD hS => ?_)
    refine lv_iconst (v := (1 : Int32)) hx hb d_Sta_refusesPrivileged_22 (by decide) ?_
    have ef : f_Sta_refusesPrivileged sp nx lt ex = ((1 : Int32), t2.1, t2.2.1, t2.2.2.1, t2.2.2.2) := by unfold f_Sta_refusesPrivileged; try dsimp only; rw [if_neg h1]
    exact k_zret hx hb hr hlocks hK hP hD hS [0, 1, 2] rfl (by rw [ef] <;> rfl) (by rw [ef] <;> rfl) nb1 d_Sta_refusesPrivileged_23
  · refine lv_iconst (v := (0 : Int32)) hx hb d_Sta_refusesPrivileged_11 (by decide) ?_
    have ef : f_Sta_refusesPrivileged sp nx lt ex = ((0 : Int32), sp, nx, lt, ex) := by unfold f_Sta_refusesPrivileged; try dsimp only; rw [if_pos h1]
    exact k_zret hx hb hr hlocks hK hP hD hS [0, 1, 2] rfl (by rw [ef] <;> rfl) (by rw [ef] <;> rfl) nb0 d_Sta_refusesPrivileged_12
/-! MappedProcessor$State.keepConditionBit(II)V -/
theorem d_Sta_keepConditionBit_0 : decode b_Sta_keepConditionBit 0 = .ok (.bipush 31, 2) := by decide +kernel
theorem d_Sta_keepConditionBit_2 : decode b_Sta_keepConditionBit 2 = .ok (.iload_n 1, 1) := by decide +kernel
theorem d_Sta_keepConditionBit_3 : decode b_Sta_keepConditionBit 3 = .ok (.isub, 1) := by decide +kernel
theorem d_Sta_keepConditionBit_4 : decode b_Sta_keepConditionBit 4 = .ok (.istore_n 3, 1) := by decide +kernel
theorem d_Sta_keepConditionBit_5 : decode b_Sta_keepConditionBit 5 = .ok (.aload_n 0, 1) := by decide +kernel
theorem d_Sta_keepConditionBit_6 : decode b_Sta_keepConditionBit 6 = .ok (.getfield 15, 3) := by decide +kernel
theorem d_Sta_keepConditionBit_9 : decode b_Sta_keepConditionBit 9 = .ok (.iconst 2, 1) := by decide +kernel
theorem d_Sta_keepConditionBit_10 : decode b_Sta_keepConditionBit 10 = .ok (.aload_n 0, 1) := by decide +kernel
theorem d_Sta_keepConditionBit_11 : decode b_Sta_keepConditionBit 11 = .ok (.getfield 15, 3) := by decide +kernel
theorem d_Sta_keepConditionBit_14 : decode b_Sta_keepConditionBit 14 = .ok (.iconst 2, 1) := by decide +kernel
theorem d_Sta_keepConditionBit_15 : decode b_Sta_keepConditionBit 15 = .ok (.iaload, 1) := by decide +kernel
theorem d_Sta_keepConditionBit_16 : decode b_Sta_keepConditionBit 16 = .ok (.iconst 1, 1) := by decide +kernel
theorem d_Sta_keepConditionBit_17 : decode b_Sta_keepConditionBit 17 = .ok (.iload_n 3, 1) := by decide +kernel
theorem d_Sta_keepConditionBit_18 : decode b_Sta_keepConditionBit 18 = .ok (.ishl, 1) := by decide +kernel
theorem d_Sta_keepConditionBit_19 : decode b_Sta_keepConditionBit 19 = .ok (.iconst (-1), 1) := by decide +kernel
theorem d_Sta_keepConditionBit_20 : decode b_Sta_keepConditionBit 20 = .ok (.ixor, 1) := by decide +kernel
theorem d_Sta_keepConditionBit_21 : decode b_Sta_keepConditionBit 21 = .ok (.iand, 1) := by decide +kernel
theorem d_Sta_keepConditionBit_22 : decode b_Sta_keepConditionBit 22 = .ok (.iload_n 2, 1) := by decide +kernel
theorem d_Sta_keepConditionBit_23 : decode b_Sta_keepConditionBit 23 = .ok (.iconst 1, 1) := by decide +kernel
theorem d_Sta_keepConditionBit_24 : decode b_Sta_keepConditionBit 24 = .ok (.iand, 1) := by decide +kernel
theorem d_Sta_keepConditionBit_25 : decode b_Sta_keepConditionBit 25 = .ok (.iload_n 3, 1) := by decide +kernel
theorem d_Sta_keepConditionBit_26 : decode b_Sta_keepConditionBit 26 = .ok (.ishl, 1) := by decide +kernel
theorem d_Sta_keepConditionBit_27 : decode b_Sta_keepConditionBit 27 = .ok (.ior, 1) := by decide +kernel
theorem d_Sta_keepConditionBit_28 : decode b_Sta_keepConditionBit 28 = .ok (.iastore, 1) := by decide +kernel
theorem d_Sta_keepConditionBit_29 : decode b_Sta_keepConditionBit 29 = .ok (.return_, 1) := by decide +kernel
def f_Sta_keepConditionBit (p0 : Int32) (p1 : Int32) (sp : Nat → Int32) : (Nat → Int32) :=
  (upd sp 2 (((sp 2) &&& ((shl (1 : Int32) ((31 : Int32) - p0)) ^^^ (-1 : Int32))) ||| (shl (p1 &&& (1 : Int32)) ((31 : Int32) - p0))))
set_option maxHeartbeats 4000000 in
set_option maxRecDepth 100000 in
theorem c_Sta_keepConditionBit (l : Launch) (D : va_G) (aS aG aX : Nat) (cG cX : ClassId) (g : Nat → Int32) (sp : Nat → Int32) (nx : Int32) (lt : Int32) (sm : Int32) (ex : Int32) (p0 : Int32) (p1 : Int32) : kMv l y_Sta_keepConditionBit b_Sta_keepConditionBit 4 none 0 0 D kCl [(cG, .int), (cX, .int)] [.ref aS, .int p0, .int p1] [(aS, .inr (9, [.ref aG, .ref aX, .int nx, .int lt, .int sm, .int ex])), (aG, .inl (cG, 32, .inl g)), (aX, .inl (cX, 64, .inl sp))] [(aS, .inr (9, [.ref aG, .ref aX, .int nx, .int lt, .int sm, .int ex])), (aG, .inl (cG, 32, .inl g)), (aX, .inl (cX, 64, .inl (f_Sta_keepConditionBit p0 p1 sp)))] := by
  refine k_entry (Qc := fun A => kQv D kCl [(cG, .int), (cX, .int)] [(aS, .inr (9, [.ref aG, .ref aX, .int nx, .int lt, .int sm, .int ex])), (aG, .inl (cG, 32, .inl g)), (aX, .inl (cX, 64, .inl (f_Sta_keepConditionBit p0 p1 sp)))] A) (lv := [(0, .ref aS), (1, .int p0), (2, .int p1)]) (by decide) (Nat.le_of_ble_eq_true rfl) rfl ?_
  intro p e s m below meth c A ls hx hb hr hml hB hown hlocks hin hA hK hN hP hD hS hl
  have hown : s.vm.findClass "MappedProcessor$State" = some m.cls := hown
  refine lv_bipush (v := (31 : Int32)) hx hb d_Sta_keepConditionBit_0 (by decide) ?_
  refine lv_iload_n hx hb d_Sta_keepConditionBit_2 rfl (lv_at hl 1 rfl) ?_
  refine lv_isub hx hb d_Sta_keepConditionBit_3 ?_
  refine lv_istore_n (lv' := [(3, .int ((31 : Int32) - p0)), (0, .ref aS), (1, .int p0), (2, .int p1)]) hx hb d_Sta_keepConditionBit_4 rfl hl (by decide) rfl (fun ls hl => ?_)
  refine lv_aload_n hx hb d_Sta_keepConditionBit_5 rfl (lv_at hl 1 rfl) ?_
  refine va_get (D := D) (ci := 9) (v := .ref aX) (C := "MappedProcessor$State") (T := T_Sta) (N := 6) hx hb hB iw_Sta hown hK hP 0 rfl rfl 1 (by decide) (hB _ mw_40) (fun _ h9 => h9) rfl d_Sta_keepConditionBit_6 ?_
  refine lv_iconst (v := (2 : Int32)) hx hb d_Sta_keepConditionBit_9 (by decide) ?_
  refine lv_aload_n hx hb d_Sta_keepConditionBit_10 rfl (lv_at hl 1 rfl) ?_
  refine va_get (D := D) (ci := 9) (v := .ref aX) (C := "MappedProcessor$State") (T := T_Sta) (N := 6) hx hb hB iw_Sta hown hK hP 0 rfl rfl 1 (by decide) (hB _ mw_40) (fun _ h9 => h9) rfl d_Sta_keepConditionBit_11 ?_
  refine lv_iconst (v := (2 : Int32)) hx hb d_Sta_keepConditionBit_14 (by decide) ?_
  refine k_iald (j := 2) hx hb hK hP 2 1 rfl rfl (by decide) (by unfold vp_in; decide) d_Sta_keepConditionBit_15 ?_
  refine lv_iconst (v := (1 : Int32)) hx hb d_Sta_keepConditionBit_16 (by decide) ?_
  refine lv_iload_n hx hb d_Sta_keepConditionBit_17 rfl (lv_at hl 0 rfl) ?_
  refine lv_ishl hx hb d_Sta_keepConditionBit_18 ?_
  refine lv_iconst (v := (-1 : Int32)) hx hb d_Sta_keepConditionBit_19 (by decide) ?_
  refine lv_ixor hx hb d_Sta_keepConditionBit_20 ?_
  refine lv_iand hx hb d_Sta_keepConditionBit_21 ?_
  refine lv_iload_n hx hb d_Sta_keepConditionBit_22 rfl (lv_at hl 3 rfl) ?_
  refine lv_iconst (v := (1 : Int32)) hx hb d_Sta_keepConditionBit_23 (by decide) ?_
  refine lv_iand hx hb d_Sta_keepConditionBit_24 ?_
  refine lv_iload_n hx hb d_Sta_keepConditionBit_25 rfl (lv_at hl 0 rfl) ?_
  refine lv_ishl hx hb d_Sta_keepConditionBit_26 ?_
  refine lv_ior hx hb d_Sta_keepConditionBit_27 ?_
  refine k_iast (j := 2) hx hb hK hP hD hS 2 1 rfl rfl (by decide) (by unfold vp_in; decide) d_Sta_keepConditionBit_28 (fun H locs hP hD hS => ?_)
  have hP : va_P D kCl [(aS, .inr (9, [.ref aG, .ref aX, .int nx, .int lt, .int sm, .int ex])), (aG, .inl (cG, 32, .inl g)), (aX, .inl (cX, 64, .inl (upd sp 2 (((sp 2) &&& ((shl (1 : Int32) ((31 : Int32) - p0)) ^^^ (-1 : Int32))) ||| (shl (p1 &&& (1 : Int32)) ((31 : Int32) - p0))))))] H := hP
  have hD : va_D A [(aS, .inr (9, [.ref aG, .ref aX, .int nx, .int lt, .int sm, .int ex])), (aG, .inl (cG, 32, .inl g)), (aX, .inl (cX, 64, .inl (upd sp 2 (((sp 2) &&& ((shl (1 : Int32) ((31 : Int32) - p0)) ^^^ (-1 : Int32))) ||| (shl (p1 &&& (1 : Int32)) ((31 : Int32) - p0))))))] := hD
  have ef : f_Sta_keepConditionBit p0 p1 sp = (upd sp 2 (((sp 2) &&& ((shl (1 : Int32) ((31 : Int32) - p0)) ^^^ (-1 : Int32))) ||| (shl (p1 &&& (1 : Int32)) ((31 : Int32) - p0)))) := rfl
  exact k_vret hx hb hr hlocks hK hP hD hS [0, 1, 2] rfl (by rw [ef] <;> rfl) d_Sta_keepConditionBit_29
/-! MappedProcessor$State.carry()I -/
theorem d_Sta_carry_0 : decode b_Sta_carry 0 = .ok (.aload_n 0, 1) := by decide +kernel
theorem d_Sta_carry_1 : decode b_Sta_carry 1 = .ok (.iconst 3, 1) := by decide +kernel
theorem d_Sta_carry_2 : decode b_Sta_carry 2 = .ok (.ldc 46, 2) := by decide +kernel
theorem d_Sta_carry_4 : decode b_Sta_carry 4 = .ok (.invokevirtual 37, 3) := by decide +kernel
theorem d_Sta_carry_7 : decode b_Sta_carry 7 = .ok (.ifCond .eq 7, 3) := by decide +kernel
theorem d_Sta_carry_10 : decode b_Sta_carry 10 = .ok (.iconst 1, 1) := by decide +kernel
theorem d_Sta_carry_11 : decode b_Sta_carry 11 = .ok (.goto 4, 3) := by decide +kernel
theorem d_Sta_carry_14 : decode b_Sta_carry 14 = .ok (.iconst 0, 1) := by decide +kernel
theorem d_Sta_carry_15 : decode b_Sta_carry 15 = .ok (.ireturn, 1) := by decide +kernel
def f_Sta_carry (sp : Nat → Int32) : Int32 :=
  (if (f_Sta_has (3 : Int32) (536870912 : Int32) sp) = (0 : Int32) then (0 : Int32) else (1 : Int32))
set_option maxHeartbeats 4000000 in
set_option maxRecDepth 100000 in
theorem c_Sta_carry (l : Launch) (D : va_G) (aS aG aX : Nat) (cG cX : ClassId) (g : Nat → Int32) (sp : Nat → Int32) (nx : Int32) (lt : Int32) (sm : Int32) (ex : Int32) : kMi l y_Sta_carry b_Sta_carry 1 (some .int) 1 22 D kCl [(cG, .int), (cX, .int)] [.ref aS] [(aS, .inr (9, [.ref aG, .ref aX, .int nx, .int lt, .int sm, .int ex])), (aG, .inl (cG, 32, .inl g)), (aX, .inl (cX, 64, .inl sp))] (f_Sta_carry sp) [(aS, .inr (9, [.ref aG, .ref aX, .int nx, .int lt, .int sm, .int ex])), (aG, .inl (cG, 32, .inl g)), (aX, .inl (cX, 64, .inl sp))] := by
  refine k_entry (Qc := fun A => kQi D kCl [(cG, .int), (cX, .int)] (f_Sta_carry sp) [(aS, .inr (9, [.ref aG, .ref aX, .int nx, .int lt, .int sm, .int ex])), (aG, .inl (cG, 32, .inl g)), (aX, .inl (cX, 64, .inl sp))] A) (lv := [(0, .ref aS)]) (by decide) (Nat.le_of_ble_eq_true rfl) rfl ?_
  intro p e s m below meth c A ls hx hb hr hml hB hown hlocks hin hA hK hN hP hD hS hl
  have hown : s.vm.findClass "MappedProcessor$State" = some m.cls := hown
  refine lv_aload_n hx hb d_Sta_carry_0 rfl (lv_at hl 0 rfl) ?_
  refine lv_iconst (v := (3 : Int32)) hx hb d_Sta_carry_1 (by decide) ?_
  refine lv_ldc (v := (536870912 : Int32)) hx hb hown (hB _ mw_411) d_Sta_carry_2 ?_
  refine k_cVi (As := [.int (3 : Int32), .int (536870912 : Int32)]) (rest := []) (wr := []) (wj := [(aS, .inr (9, [.ref aG, .ref aX, .int nx, .int lt, .int sm, .int ex])), (aG, .inl (cG, 32, .inl g)), (aX, .inl (cX, 64, .inl sp))]) ⟨hx, hb, hml, hown, hB⟩ (c_Sta_has l D aS aG aX cG cX g sp nx lt sm ex (3 : Int32) (536870912 : Int32)) yl_Sta_has mw_471 hK hN hP hD hS hA [0, 1] [0, 1, 2] [] [0, 1, 2] rfl rfl rfl rfl (by decide +kernel) 0 rfl rfl rfl rfl hl.1 rfl (Nat.le_of_ble_eq_true rfl) ⟨Nat.le_of_ble_eq_true rfl, Nat.le_of_ble_eq_true rfl⟩ d_Sta_carry_4 ⟨Nat.le_of_ble_eq_true rfl, Nat.le_of_ble_eq_true rfl⟩ (fun H locs hP hD hS => ?_)
  refine k_join2 (c0 := (f_Sta_has (3 : Int32) (536870912 : Int32) sp) = (0 : Int32)) (x1 := (0 : Int32)) (x2 := (1 : Int32)) (rest := []) 15 ?_ (fun k2 k3 => ?_)
  rotate_left
  · refine lv_if_eq (tgt := 14) hx hb d_Sta_carry_7 (by decide) (fun (h1 : (f_Sta_has (3 : Int32) (536870912 : Int32) sp) = (0 : Int32)) => ?_) (fun (h1 : ¬ (f_Sta_has (3 : Int32) (536870912 : Int32) sp) = (0 : Int32)) => ?_)
    · refine lv_iconst (v := (0 : Int32)) hx hb d_Sta_carry_14 (by decide) ?_
      exact k2 h1
    · refine lv_iconst (v := (1 : Int32)) hx hb d_Sta_carry_10 (by decide) ?_
      refine lv_goto (tgt := 15) hx hb d_Sta_carry_11 (by decide) ?_
      exact k3 h1
  have ef : f_Sta_carry sp = (if (f_Sta_has (3 : Int32) (536870912 : Int32) sp) = (0 : Int32) then (0 : Int32) else (1 : Int32)) := rfl
  exact k_iret hx hb hr hlocks hK hP hD hS [0, 1, 2] rfl rfl (by rw [ef] <;> rfl) d_Sta_carry_15
/-! MappedProcessor$Memory.shift(II)I -/
theorem d_Mem_shift_0 : decode b_Mem_shift 0 = .ok (.bipush 8, 2) := by decide +kernel
theorem d_Mem_shift_2 : decode b_Mem_shift 2 = .ok (.iconst 4, 1) := by decide +kernel
theorem d_Mem_shift_3 : decode b_Mem_shift 3 = .ok (.iload_n 1, 1) := by decide +kernel
theorem d_Mem_shift_4 : decode b_Mem_shift 4 = .ok (.isub, 1) := by decide +kernel
theorem d_Mem_shift_5 : decode b_Mem_shift 5 = .ok (.iload_n 0, 1) := by decide +kernel
theorem d_Mem_shift_6 : decode b_Mem_shift 6 = .ok (.iconst 3, 1) := by decide +kernel
theorem d_Mem_shift_7 : decode b_Mem_shift 7 = .ok (.iand, 1) := by decide +kernel
theorem d_Mem_shift_8 : decode b_Mem_shift 8 = .ok (.isub, 1) := by decide +kernel
theorem d_Mem_shift_9 : decode b_Mem_shift 9 = .ok (.imul, 1) := by decide +kernel
theorem d_Mem_shift_10 : decode b_Mem_shift 10 = .ok (.ireturn, 1) := by decide +kernel
def f_Mem_shift (p0 : Int32) (p1 : Int32) : Int32 :=
  ((8 : Int32) * (((4 : Int32) - p1) - (p0 &&& (3 : Int32))))
set_option maxHeartbeats 4000000 in
set_option maxRecDepth 100000 in
theorem c_Mem_shift (l : Launch) (D : va_G) (p0 : Int32) (p1 : Int32) : kMi l y_Mem_shift b_Mem_shift 2 (some .int) 0 0 D kCl [] [.int p0, .int p1] [] (f_Mem_shift p0 p1) [] := by
  refine k_entry (Qc := fun A => kQi D kCl [] (f_Mem_shift p0 p1) [] A) (lv := [(0, .int p0), (1, .int p1)]) (by decide) (Nat.le_of_ble_eq_true rfl) rfl ?_
  intro p e s m below meth c A ls hx hb hr hml hB hown hlocks hin hA hK hN hP hD hS hl
  have hown : s.vm.findClass "MappedProcessor$Memory" = some m.cls := hown
  refine lv_bipush (v := (8 : Int32)) hx hb d_Mem_shift_0 (by decide) ?_
  refine lv_iconst (v := (4 : Int32)) hx hb d_Mem_shift_2 (by decide) ?_
  refine lv_iload_n hx hb d_Mem_shift_3 rfl (lv_at hl 1 rfl) ?_
  refine lv_isub hx hb d_Mem_shift_4 ?_
  refine lv_iload_n hx hb d_Mem_shift_5 rfl (lv_at hl 0 rfl) ?_
  refine lv_iconst (v := (3 : Int32)) hx hb d_Mem_shift_6 (by decide) ?_
  refine lv_iand hx hb d_Mem_shift_7 ?_
  refine lv_isub hx hb d_Mem_shift_8 ?_
  refine lv_imul hx hb d_Mem_shift_9 ?_
  have ef : f_Mem_shift p0 p1 = ((8 : Int32) * (((4 : Int32) - p1) - (p0 &&& (3 : Int32)))) := rfl
  exact k_iret hx hb hr hlocks hK hP hD hS [] rfl rfl (by rw [ef] <;> rfl) d_Mem_shift_10
/-! MappedProcessor$Memory.mask(I)I -/
theorem d_Mem_mask_0 : decode b_Mem_mask 0 = .ok (.iload_n 0, 1) := by decide +kernel
theorem d_Mem_mask_1 : decode b_Mem_mask 1 = .ok (.iconst 4, 1) := by decide +kernel
theorem d_Mem_mask_2 : decode b_Mem_mask 2 = .ok (.if_icmp .ne 7, 3) := by decide +kernel
theorem d_Mem_mask_5 : decode b_Mem_mask 5 = .ok (.iconst (-1), 1) := by decide +kernel
theorem d_Mem_mask_6 : decode b_Mem_mask 6 = .ok (.goto 11, 3) := by decide +kernel
theorem d_Mem_mask_9 : decode b_Mem_mask 9 = .ok (.iconst 1, 1) := by decide +kernel
theorem d_Mem_mask_10 : decode b_Mem_mask 10 = .ok (.bipush 8, 2) := by decide +kernel
theorem d_Mem_mask_12 : decode b_Mem_mask 12 = .ok (.iload_n 0, 1) := by decide +kernel
theorem d_Mem_mask_13 : decode b_Mem_mask 13 = .ok (.imul, 1) := by decide +kernel
theorem d_Mem_mask_14 : decode b_Mem_mask 14 = .ok (.ishl, 1) := by decide +kernel
theorem d_Mem_mask_15 : decode b_Mem_mask 15 = .ok (.iconst 1, 1) := by decide +kernel
theorem d_Mem_mask_16 : decode b_Mem_mask 16 = .ok (.isub, 1) := by decide +kernel
theorem d_Mem_mask_17 : decode b_Mem_mask 17 = .ok (.ireturn, 1) := by decide +kernel
def f_Mem_mask (p0 : Int32) : Int32 :=
  (if p0 = (4 : Int32) then (-1 : Int32) else ((shl (1 : Int32) ((8 : Int32) * p0)) - (1 : Int32)))
set_option maxHeartbeats 4000000 in
set_option maxRecDepth 100000 in
theorem c_Mem_mask (l : Launch) (D : va_G) (p0 : Int32) : kMi l y_Mem_mask b_Mem_mask 1 (some .int) 0 0 D kCl [] [.int p0] [] (f_Mem_mask p0) [] := by
  refine k_entry (Qc := fun A => kQi D kCl [] (f_Mem_mask p0) [] A) (lv := [(0, .int p0)]) (by decide) (Nat.le_of_ble_eq_true rfl) rfl ?_
  intro p e s m below meth c A ls hx hb hr hml hB hown hlocks hin hA hK hN hP hD hS hl
  have hown : s.vm.findClass "MappedProcessor$Memory" = some m.cls := hown
  refine lv_iload_n hx hb d_Mem_mask_0 rfl (lv_at hl 0 rfl) ?_
  refine lv_iconst (v := (4 : Int32)) hx hb d_Mem_mask_1 (by decide) ?_
  refine k_join2 (c0 := p0 = (4 : Int32)) (x1 := (-1 : Int32)) (x2 := ((shl (1 : Int32) ((8 : Int32) * p0)) - (1 : Int32))) (rest := []) 17 ?_ (fun k2 k3 => ?_)
  rotate_left
  · refine lv_icmp_ne (tgt := 9) hx hb d_Mem_mask_2 (by decide) (fun (h1 : ¬ p0 = (4 : Int32)) => ?_) (fun (h1 : p0 = (4 : Int32)) => ?_)
    · refine lv_iconst (v := (1 : Int32)) hx hb d_Mem_mask_9 (by decide) ?_
      refine lv_bipush (v := (8 : Int32)) hx hb d_Mem_mask_10 (by decide) ?_
      refine lv_iload_n hx hb d_Mem_mask_12 rfl (lv_at hl 0 rfl) ?_
      refine lv_imul hx hb d_Mem_mask_13 ?_
      refine lv_ishl hx hb d_Mem_mask_14 ?_
      refine lv_iconst (v := (1 : Int32)) hx hb d_Mem_mask_15 (by decide) ?_
      refine lv_isub hx hb d_Mem_mask_16 ?_
      exact k3 h1
    · refine lv_iconst (v := (-1 : Int32)) hx hb d_Mem_mask_5 (by decide) ?_
      refine lv_goto (tgt := 17) hx hb d_Mem_mask_6 (by decide) ?_
      exact k2 h1
  have ef : f_Mem_mask p0 = (if p0 = (4 : Int32) then (-1 : Int32) else ((shl (1 : Int32) ((8 : Int32) * p0)) - (1 : Int32))) := rfl
  exact k_iret hx hb hr hlocks hK hP hD hS [] rfl rfl (by rw [ef] <;> rfl) d_Mem_mask_17
/-! MappedProcessor$Memory.keepPart(III)V -/
theorem d_Mem_keepPart_0 : decode b_Mem_keepPart 0 = .ok (.iload_n 1, 1) := by decide +kernel
theorem d_Mem_keepPart_1 : decode b_Mem_keepPart 1 = .ok (.iload_n 2, 1) := by decide +kernel
theorem d_Mem_keepPart_2 : decode b_Mem_keepPart 2 = .ok (.invokestatic 20, 3) := by decide +kernel
theorem d_Mem_keepPart_5 : decode b_Mem_keepPart 5 = .ok (.istore 4, 2) := by decide +kernel
theorem d_Mem_keepPart_7 : decode b_Mem_keepPart 7 = .ok (.iload_n 2, 1) := by decide +kernel
theorem d_Mem_keepPart_8 : decode b_Mem_keepPart 8 = .ok (.invokestatic 24, 3) := by decide +kernel
theorem d_Mem_keepPart_11 : decode b_Mem_keepPart 11 = .ok (.istore 5, 2) := by decide +kernel
theorem d_Mem_keepPart_13 : decode b_Mem_keepPart 13 = .ok (.aload_n 0, 1) := by decide +kernel
theorem d_Mem_keepPart_14 : decode b_Mem_keepPart 14 = .ok (.iload_n 1, 1) := by decide +kernel
theorem d_Mem_keepPart_15 : decode b_Mem_keepPart 15 = .ok (.aload_n 0, 1) := by decide +kernel
theorem d_Mem_keepPart_16 : decode b_Mem_keepPart 16 = .ok (.iload_n 1, 1) := by decide +kernel
theorem d_Mem_keepPart_17 : decode b_Mem_keepPart 17 = .ok (.invokevirtual 16, 3) := by decide +kernel
theorem d_Mem_keepPart_20 : decode b_Mem_keepPart 20 = .ok (.iload 5, 2) := by decide +kernel
theorem d_Mem_keepPart_22 : decode b_Mem_keepPart 22 = .ok (.iload 4, 2) := by decide +kernel
theorem d_Mem_keepPart_24 : decode b_Mem_keepPart 24 = .ok (.ishl, 1) := by decide +kernel
theorem d_Mem_keepPart_25 : decode b_Mem_keepPart 25 = .ok (.iconst (-1), 1) := by decide +kernel
theorem d_Mem_keepPart_26 : decode b_Mem_keepPart 26 = .ok (.ixor, 1) := by decide +kernel
theorem d_Mem_keepPart_27 : decode b_Mem_keepPart 27 = .ok (.iand, 1) := by decide +kernel
theorem d_Mem_keepPart_28 : decode b_Mem_keepPart 28 = .ok (.iload_n 3, 1) := by decide +kernel
theorem d_Mem_keepPart_29 : decode b_Mem_keepPart 29 = .ok (.iload 5, 2) := by decide +kernel
theorem d_Mem_keepPart_31 : decode b_Mem_keepPart 31 = .ok (.iand, 1) := by decide +kernel
theorem d_Mem_keepPart_32 : decode b_Mem_keepPart 32 = .ok (.iload 4, 2) := by decide +kernel
theorem d_Mem_keepPart_34 : decode b_Mem_keepPart 34 = .ok (.ishl, 1) := by decide +kernel
theorem d_Mem_keepPart_35 : decode b_Mem_keepPart 35 = .ok (.ior, 1) := by decide +kernel
theorem d_Mem_keepPart_36 : decode b_Mem_keepPart 36 = .ok (.invokevirtual 27, 3) := by decide +kernel
theorem d_Mem_keepPart_39 : decode b_Mem_keepPart 39 = .ok (.return_, 1) := by decide +kernel
def f_Mem_keepPart (p0 : Int32) (p1 : Int32) (p2 : Int32) (w : Nat → Int32) : (Nat → Int32) :=
  (f_Mem_keep p0 (((f_Mem_at p0 w) &&& ((shl (f_Mem_mask p1) (f_Mem_shift p0 p1)) ^^^ (-1 : Int32))) ||| (shl (p2 &&& (f_Mem_mask p1)) (f_Mem_shift p0 p1))) w)
set_option maxHeartbeats 4000000 in
set_option maxRecDepth 100000 in
theorem c_Mem_keepPart (l : Launch) (D : va_G) (aM aW : Nat) (cW : ClassId) (w : Nat → Int32) (p0 : Int32) (p1 : Int32) (p2 : Int32) : kMv l y_Mem_keepPart b_Mem_keepPart 6 none 1 22 D kCl [(cW, .int)] [.ref aM, .int p0, .int p1, .int p2] [(aM, .inr (8, [.ref aW])), (aW, .inl (cW, 16384, .inl w))] [(aM, .inr (8, [.ref aW])), (aW, .inl (cW, 16384, .inl (f_Mem_keepPart p0 p1 p2 w)))] := by
  refine k_entry (Qc := fun A => kQv D kCl [(cW, .int)] [(aM, .inr (8, [.ref aW])), (aW, .inl (cW, 16384, .inl (f_Mem_keepPart p0 p1 p2 w)))] A) (lv := [(0, .ref aM), (1, .int p0), (2, .int p1), (3, .int p2)]) (by decide) (Nat.le_of_ble_eq_true rfl) rfl ?_
  intro p e s m below meth c A ls hx hb hr hml hB hown hlocks hin hA hK hN hP hD hS hl
  have hown : s.vm.findClass "MappedProcessor$Memory" = some m.cls := hown
  refine lv_iload_n hx hb d_Mem_keepPart_0 rfl (lv_at hl 1 rfl) ?_
  refine lv_iload_n hx hb d_Mem_keepPart_1 rfl (lv_at hl 2 rfl) ?_
  refine k_cSi (As := [.int p0, .int p1]) (rest := []) (wr := [(aM, .inr (8, [.ref aW])), (aW, .inl (cW, 16384, .inl w))]) (wj := [(aM, .inr (8, [.ref aW])), (aW, .inl (cW, 16384, .inl w))]) ⟨hx, hb, hml, hown, hB⟩ (c_Mem_shift l D p0 p1) yl_Mem_shift mw_589 hK hN hP hD hS hA [] [] [0, 1] [0, 1] rfl rfl rfl rfl (by decide +kernel) rfl hl.1 rfl (Nat.le_of_ble_eq_true rfl) ⟨Nat.le_of_ble_eq_true rfl, Nat.le_of_ble_eq_true rfl⟩ d_Mem_keepPart_2 ⟨Nat.le_of_ble_eq_true rfl, Nat.le_of_ble_eq_true rfl⟩ (fun H locs hP hD hS => ?_)
  refine lv_istore (lv' := [(4, .int (f_Mem_shift p0 p1)), (0, .ref aM), (1, .int p0), (2, .int p1), (3, .int p2)]) hx hb d_Mem_keepPart_5 hl (by decide) rfl (fun ls hl => ?_)
  refine lv_iload_n hx hb d_Mem_keepPart_7 rfl (lv_at hl 3 rfl) ?_
  refine k_cSi (As := [.int p1]) (rest := []) (wr := [(aM, .inr (8, [.ref aW])), (aW, .inl (cW, 16384, .inl w))]) (wj := [(aM, .inr (8, [.ref aW])), (aW, .inl (cW, 16384, .inl w))]) ⟨hx, hb, hml, hown, hB⟩ (c_Mem_mask l D p1) yl_Mem_mask mw_592 hK hN hP hD hS hA [] [] [0, 1] [0, 1] rfl rfl rfl rfl (by decide +kernel) rfl hl.1 rfl (Nat.le_of_ble_eq_true rfl) ⟨Nat.le_of_ble_eq_true rfl, Nat.le_of_ble_eq_true rfl⟩ d_Mem_keepPart_8 ⟨Nat.le_of_ble_eq_true rfl, Nat.le_of_ble_eq_true rfl⟩ (fun H locs hP hD hS => ?_)
  refine lv_istore (lv' := [(5, .int (f_Mem_mask p1)), (4, .int (f_Mem_shift p0 p1)), (0, .ref aM), (1, .int p0), (2, .int p1), (3, .int p2)]) hx hb d_Mem_keepPart_11 hl (by decide) rfl (fun ls hl => ?_)
  refine lv_aload_n hx hb d_Mem_keepPart_13 rfl (lv_at hl 2 rfl) ?_
  refine lv_iload_n hx hb d_Mem_keepPart_14 rfl (lv_at hl 3 rfl) ?_
  refine lv_aload_n hx hb d_Mem_keepPart_15 rfl (lv_at hl 2 rfl) ?_
  refine lv_iload_n hx hb d_Mem_keepPart_16 rfl (lv_at hl 3 rfl) ?_
  refine k_cVi (As := [.int p0]) (rest := [.int p0, .ref aM]) (wr := []) (wj := [(aM, .inr (8, [.ref aW])), (aW, .inl (cW, 16384, .inl w))]) ⟨hx, hb, hml, hown, hB⟩ (c_Mem_at l D aM aW cW w p0) yl_Mem_at mw_595 hK hN hP hD hS hA [0] [0, 1] [] [0, 1] rfl rfl rfl rfl (by decide +kernel) 0 rfl rfl rfl rfl hl.1 rfl (Nat.le_of_ble_eq_true rfl) ⟨Nat.le_of_ble_eq_true rfl, Nat.le_of_ble_eq_true rfl⟩ d_Mem_keepPart_17 ⟨Nat.le_of_ble_eq_true rfl, Nat.le_of_ble_eq_true rfl⟩ (fun H locs hP hD hS => ?_)
  refine lv_iload hx hb d_Mem_keepPart_20 (lv_at hl 0 rfl) ?_
  refine lv_iload hx hb d_Mem_keepPart_22 (lv_at hl 1 rfl) ?_
  refine lv_ishl hx hb d_Mem_keepPart_24 ?_
  refine lv_iconst (v := (-1 : Int32)) hx hb d_Mem_keepPart_25 (by decide) ?_
  refine lv_ixor hx hb d_Mem_keepPart_26 ?_
  refine lv_iand hx hb d_Mem_keepPart_27 ?_
  refine lv_iload_n hx hb d_Mem_keepPart_28 rfl (lv_at hl 5 rfl) ?_
  refine lv_iload hx hb d_Mem_keepPart_29 (lv_at hl 0 rfl) ?_
  refine lv_iand hx hb d_Mem_keepPart_31 ?_
  refine lv_iload hx hb d_Mem_keepPart_32 (lv_at hl 1 rfl) ?_
  refine lv_ishl hx hb d_Mem_keepPart_34 ?_
  refine lv_ior hx hb d_Mem_keepPart_35 ?_
  refine k_cVv (As := [.int p0, .int (((f_Mem_at p0 w) &&& ((shl (f_Mem_mask p1) (f_Mem_shift p0 p1)) ^^^ (-1 : Int32))) ||| (shl (p2 &&& (f_Mem_mask p1)) (f_Mem_shift p0 p1)))]) (rest := []) (wr := []) (wj := [(aM, .inr (8, [.ref aW])), (aW, .inl (cW, 16384, .inl (f_Mem_keep p0 (((f_Mem_at p0 w) &&& ((shl (f_Mem_mask p1) (f_Mem_shift p0 p1)) ^^^ (-1 : Int32))) ||| (shl (p2 &&& (f_Mem_mask p1)) (f_Mem_shift p0 p1))) w)))]) ⟨hx, hb, hml, hown, hB⟩ (c_Mem_keep l D aM aW cW w p0 (((f_Mem_at p0 w) &&& ((shl (f_Mem_mask p1) (f_Mem_shift p0 p1)) ^^^ (-1 : Int32))) ||| (shl (p2 &&& (f_Mem_mask p1)) (f_Mem_shift p0 p1)))) yl_Mem_keep mw_596 hK hN hP hD hS hA [0] [0, 1] [] [0, 1] rfl rfl rfl rfl (by decide +kernel) 0 rfl rfl rfl rfl hl.1 rfl (Nat.le_of_ble_eq_true rfl) ⟨Nat.le_of_ble_eq_true rfl, Nat.le_of_ble_eq_true rfl⟩ d_Mem_keepPart_36 ⟨Nat.le_of_ble_eq_true rfl, Nat.le_of_ble_eq_true rfl⟩ (fun H locs hP hD hS => ?_)
  have ef : f_Mem_keepPart p0 p1 p2 w = (f_Mem_keep p0 (((f_Mem_at p0 w) &&& ((shl (f_Mem_mask p1) (f_Mem_shift p0 p1)) ^^^ (-1 : Int32))) ||| (shl (p2 &&& (f_Mem_mask p1)) (f_Mem_shift p0 p1))) w) := rfl
  exact k_vret hx hb hr hlocks hK hP hD hS [0, 1] rfl (by rw [ef] <;> rfl) d_Mem_keepPart_39
/-! MappedProcessor$Memory.part(II)I -/
theorem d_Mem_part_0 : decode b_Mem_part 0 = .ok (.aload_n 0, 1) := by decide +kernel
theorem d_Mem_part_1 : decode b_Mem_part 1 = .ok (.iload_n 1, 1) := by decide +kernel
theorem d_Mem_part_2 : decode b_Mem_part 2 = .ok (.invokevirtual 16, 3) := by decide +kernel
theorem d_Mem_part_5 : decode b_Mem_part 5 = .ok (.iload_n 1, 1) := by decide +kernel
theorem d_Mem_part_6 : decode b_Mem_part 6 = .ok (.iload_n 2, 1) := by decide +kernel
theorem d_Mem_part_7 : decode b_Mem_part 7 = .ok (.invokestatic 20, 3) := by decide +kernel
theorem d_Mem_part_10 : decode b_Mem_part 10 = .ok (.iushr, 1) := by decide +kernel
theorem d_Mem_part_11 : decode b_Mem_part 11 = .ok (.iload_n 2, 1) := by decide +kernel
theorem d_Mem_part_12 : decode b_Mem_part 12 = .ok (.invokestatic 24, 3) := by decide +kernel
theorem d_Mem_part_15 : decode b_Mem_part 15 = .ok (.iand, 1) := by decide +kernel
theorem d_Mem_part_16 : decode b_Mem_part 16 = .ok (.ireturn, 1) := by decide +kernel
def f_Mem_part (p0 : Int32) (p1 : Int32) (w : Nat → Int32) : Int32 :=
  ((ush (f_Mem_at p0 w) (f_Mem_shift p0 p1)) &&& (f_Mem_mask p1))
set_option maxHeartbeats 4000000 in
set_option maxRecDepth 100000 in
theorem c_Mem_part (l : Launch) (D : va_G) (aM aW : Nat) (cW : ClassId) (w : Nat → Int32) (p0 : Int32) (p1 : Int32) : kMi l y_Mem_part b_Mem_part 3 (some .int) 1 21 D kCl [(cW, .int)] [.ref aM, .int p0, .int p1] [(aM, .inr (8, [.ref aW])), (aW, .inl (cW, 16384, .inl w))] (f_Mem_part p0 p1 w) [(aM, .inr (8, [.ref aW])), (aW, .inl (cW, 16384, .inl w))] := by
  refine k_entry (Qc := fun A => kQi D kCl [(cW, .int)] (f_Mem_part p0 p1 w) [(aM, .inr (8, [.ref aW])), (aW, .inl (cW, 16384, .inl w))] A) (lv := [(0, .ref aM), (1, .int p0), (2, .int p1)]) (by decide) (Nat.le_of_ble_eq_true rfl) rfl ?_
  intro p e s m below meth c A ls hx hb hr hml hB hown hlocks hin hA hK hN hP hD hS hl
  have hown : s.vm.findClass "MappedProcessor$Memory" = some m.cls := hown
  refine lv_aload_n hx hb d_Mem_part_0 rfl (lv_at hl 0 rfl) ?_
  refine lv_iload_n hx hb d_Mem_part_1 rfl (lv_at hl 1 rfl) ?_
  refine k_cVi (As := [.int p0]) (rest := []) (wr := []) (wj := [(aM, .inr (8, [.ref aW])), (aW, .inl (cW, 16384, .inl w))]) ⟨hx, hb, hml, hown, hB⟩ (c_Mem_at l D aM aW cW w p0) yl_Mem_at mw_595 hK hN hP hD hS hA [0] [0, 1] [] [0, 1] rfl rfl rfl rfl (by decide +kernel) 0 rfl rfl rfl rfl hl.1 rfl (Nat.le_of_ble_eq_true rfl) ⟨Nat.le_of_ble_eq_true rfl, Nat.le_of_ble_eq_true rfl⟩ d_Mem_part_2 ⟨Nat.le_of_ble_eq_true rfl, Nat.le_of_ble_eq_true rfl⟩ (fun H locs hP hD hS => ?_)
  refine lv_iload_n hx hb d_Mem_part_5 rfl (lv_at hl 1 rfl) ?_
  refine lv_iload_n hx hb d_Mem_part_6 rfl (lv_at hl 2 rfl) ?_
  refine k_cSi (As := [.int p0, .int p1]) (rest := [.int (f_Mem_at p0 w)]) (wr := [(aM, .inr (8, [.ref aW])), (aW, .inl (cW, 16384, .inl w))]) (wj := [(aM, .inr (8, [.ref aW])), (aW, .inl (cW, 16384, .inl w))]) ⟨hx, hb, hml, hown, hB⟩ (c_Mem_shift l D p0 p1) yl_Mem_shift mw_589 hK hN hP hD hS hA [] [] [0, 1] [0, 1] rfl rfl rfl rfl (by decide +kernel) rfl hl.1 rfl (Nat.le_of_ble_eq_true rfl) ⟨Nat.le_of_ble_eq_true rfl, Nat.le_of_ble_eq_true rfl⟩ d_Mem_part_7 ⟨Nat.le_of_ble_eq_true rfl, Nat.le_of_ble_eq_true rfl⟩ (fun H locs hP hD hS => ?_)
  refine lv_iushr (v := (ush (f_Mem_at p0 w) (f_Mem_shift p0 p1))) hx hb d_Mem_part_10 rfl ?_
  refine lv_iload_n hx hb d_Mem_part_11 rfl (lv_at hl 2 rfl) ?_
  refine k_cSi (As := [.int p1]) (rest := [.int (ush (f_Mem_at p0 w) (f_Mem_shift p0 p1))]) (wr := [(aM, .inr (8, [.ref aW])), (aW, .inl (cW, 16384, .inl w))]) (wj := [(aM, .inr (8, [.ref aW])), (aW, .inl (cW, 16384, .inl w))]) ⟨hx, hb, hml, hown, hB⟩ (c_Mem_mask l D p1) yl_Mem_mask mw_592 hK hN hP hD hS hA [] [] [0, 1] [0, 1] rfl rfl rfl rfl (by decide +kernel) rfl hl.1 rfl (Nat.le_of_ble_eq_true rfl) ⟨Nat.le_of_ble_eq_true rfl, Nat.le_of_ble_eq_true rfl⟩ d_Mem_part_12 ⟨Nat.le_of_ble_eq_true rfl, Nat.le_of_ble_eq_true rfl⟩ (fun H locs hP hD hS => ?_)
  refine lv_iand hx hb d_Mem_part_15 ?_
  have ef : f_Mem_part p0 p1 w = ((ush (f_Mem_at p0 w) (f_Mem_shift p0 p1)) &&& (f_Mem_mask p1)) := rfl
  exact k_iret hx hb hr hlocks hK hP hD hS [0, 1] rfl rfl (by rw [ef] <;> rfl) d_Mem_part_16
/-! MappedProcessor$State.finish()V -/
theorem d_Sta_finish_0 : decode b_Sta_finish 0 = .ok (.aload_n 0, 1) := by decide +kernel
theorem d_Sta_finish_1 : decode b_Sta_finish 1 = .ok (.getfield 15, 3) := by decide +kernel
theorem d_Sta_finish_4 : decode b_Sta_finish 4 = .ok (.iconst 0, 1) := by decide +kernel
theorem d_Sta_finish_5 : decode b_Sta_finish 5 = .ok (.aload_n 0, 1) := by decide +kernel
theorem d_Sta_finish_6 : decode b_Sta_finish 6 = .ok (.getfield 32, 3) := by decide +kernel
theorem d_Sta_finish_9 : decode b_Sta_finish 9 = .ok (.iastore, 1) := by decide +kernel
theorem d_Sta_finish_10 : decode b_Sta_finish 10 = .ok (.return_, 1) := by decide +kernel
def f_Sta_finish (sp : Nat → Int32) (nx : Int32) : (Nat → Int32) :=
  (upd sp 0 nx)
set_option maxHeartbeats 4000000 in
set_option maxRecDepth 100000 in
theorem c_Sta_finish (l : Launch) (D : va_G) (aS aG aX : Nat) (cG cX : ClassId) (g : Nat → Int32) (sp : Nat → Int32) (nx : Int32) (lt : Int32) (sm : Int32) (ex : Int32) : kMv l y_Sta_finish b_Sta_finish 1 none 0 0 D kCl [(cG, .int), (cX, .int)] [.ref aS] [(aS, .inr (9, [.ref aG, .ref aX, .int nx, .int lt, .int sm, .int ex])), (aG, .inl (cG, 32, .inl g)), (aX, .inl (cX, 64, .inl sp))] [(aS, .inr (9, [.ref aG, .ref aX, .int nx, .int lt, .int sm, .int ex])), (aG, .inl (cG, 32, .inl g)), (aX, .inl (cX, 64, .inl (f_Sta_finish sp nx)))] := by
  refine k_entry (Qc := fun A => kQv D kCl [(cG, .int), (cX, .int)] [(aS, .inr (9, [.ref aG, .ref aX, .int nx, .int lt, .int sm, .int ex])), (aG, .inl (cG, 32, .inl g)), (aX, .inl (cX, 64, .inl (f_Sta_finish sp nx)))] A) (lv := [(0, .ref aS)]) (by decide) (Nat.le_of_ble_eq_true rfl) rfl ?_
  intro p e s m below meth c A ls hx hb hr hml hB hown hlocks hin hA hK hN hP hD hS hl
  have hown : s.vm.findClass "MappedProcessor$State" = some m.cls := hown
  refine lv_aload_n hx hb d_Sta_finish_0 rfl (lv_at hl 0 rfl) ?_
  refine va_get (D := D) (ci := 9) (v := .ref aX) (C := "MappedProcessor$State") (T := T_Sta) (N := 6) hx hb hB iw_Sta hown hK hP 0 rfl rfl 1 (by decide) (hB _ mw_40) (fun _ h9 => h9) rfl d_Sta_finish_1 ?_
  refine lv_iconst (v := (0 : Int32)) hx hb d_Sta_finish_4 (by decide) ?_
  refine lv_aload_n hx hb d_Sta_finish_5 rfl (lv_at hl 0 rfl) ?_
  refine va_get (D := D) (ci := 9) (v := .int nx) (C := "MappedProcessor$State") (T := T_Sta) (N := 6) hx hb hB iw_Sta hown hK hP 0 rfl rfl 2 (by decide) (hB _ mw_41) (fun _ h9 => h9) rfl d_Sta_finish_6 ?_
  refine k_iast (j := 0) hx hb hK hP hD hS 2 1 rfl rfl (by decide) (by unfold vp_in; decide) d_Sta_finish_9 (fun H locs hP hD hS => ?_)
  have hP : va_P D kCl [(aS, .inr (9, [.ref aG, .ref aX, .int nx, .int lt, .int sm, .int ex])), (aG, .inl (cG, 32, .inl g)), (aX, .inl (cX, 64, .inl (upd sp 0 nx)))] H := hP
  have hD : va_D A [(aS, .inr (9, [.ref aG, .ref aX, .int nx, .int lt, .int sm, .int ex])), (aG, .inl (cG, 32, .inl g)), (aX, .inl (cX, 64, .inl (upd sp 0 nx)))] := hD
  have ef : f_Sta_finish sp nx = (upd sp 0 nx) := rfl
  exact k_vret hx hb hr hlocks hK hP hD hS [0, 1, 2] rfl (by rw [ef] <;> rfl) d_Sta_finish_10
/-! MappedProcessor$State.latestVector()I -/
theorem d_Sta_latestVector_0 : decode b_Sta_latestVector 0 = .ok (.aload_n 0, 1) := by decide +kernel
theorem d_Sta_latestVector_1 : decode b_Sta_latestVector 1 = .ok (.getfield 22, 3) := by decide +kernel
theorem d_Sta_latestVector_4 : decode b_Sta_latestVector 4 = .ok (.ireturn, 1) := by decide +kernel
def f_Sta_latestVector (lt : Int32) : Int32 :=
  lt
set_option maxHeartbeats 4000000 in
set_option maxRecDepth 100000 in
theorem c_Sta_latestVector (l : Launch) (D : va_G) (aS aG aX : Nat) (cG cX : ClassId) (g : Nat → Int32) (sp : Nat → Int32) (nx : Int32) (lt : Int32) (sm : Int32) (ex : Int32) : kMi l y_Sta_latestVector b_Sta_latestVector 1 (some .int) 0 0 D kCl [(cG, .int), (cX, .int)] [.ref aS] [(aS, .inr (9, [.ref aG, .ref aX, .int nx, .int lt, .int sm, .int ex])), (aG, .inl (cG, 32, .inl g)), (aX, .inl (cX, 64, .inl sp))] (f_Sta_latestVector lt) [(aS, .inr (9, [.ref aG, .ref aX, .int nx, .int lt, .int sm, .int ex])), (aG, .inl (cG, 32, .inl g)), (aX, .inl (cX, 64, .inl sp))] := by
  refine k_entry (Qc := fun A => kQi D kCl [(cG, .int), (cX, .int)] (f_Sta_latestVector lt) [(aS, .inr (9, [.ref aG, .ref aX, .int nx, .int lt, .int sm, .int ex])), (aG, .inl (cG, 32, .inl g)), (aX, .inl (cX, 64, .inl sp))] A) (lv := [(0, .ref aS)]) (by decide) (Nat.le_of_ble_eq_true rfl) rfl ?_
  intro p e s m below meth c A ls hx hb hr hml hB hown hlocks hin hA hK hN hP hD hS hl
  have hown : s.vm.findClass "MappedProcessor$State" = some m.cls := hown
  refine lv_aload_n hx hb d_Sta_latestVector_0 rfl (lv_at hl 0 rfl) ?_
  refine va_get (D := D) (ci := 9) (v := .int lt) (C := "MappedProcessor$State") (T := T_Sta) (N := 6) hx hb hB iw_Sta hown hK hP 0 rfl rfl 3 (by decide) (hB _ mw_42) (fun _ h9 => h9) rfl d_Sta_latestVector_1 ?_
  have ef : f_Sta_latestVector lt = lt := rfl
  exact k_iret hx hb hr hlocks hK hP hD hS [0, 1, 2] rfl rfl (by rw [ef] <;> rfl) d_Sta_latestVector_4
/-! MappedProcessor$State.stepsMade()I -/
theorem d_Sta_stepsMade_0 : decode b_Sta_stepsMade 0 = .ok (.aload_n 0, 1) := by decide +kernel
theorem d_Sta_stepsMade_1 : decode b_Sta_stepsMade 1 = .ok (.getfield 26, 3) := by decide +kernel
theorem d_Sta_stepsMade_4 : decode b_Sta_stepsMade 4 = .ok (.ireturn, 1) := by decide +kernel
def f_Sta_stepsMade (sm : Int32) : Int32 :=
  sm
set_option maxHeartbeats 4000000 in
set_option maxRecDepth 100000 in
theorem c_Sta_stepsMade (l : Launch) (D : va_G) (aS aG aX : Nat) (cG cX : ClassId) (g : Nat → Int32) (sp : Nat → Int32) (nx : Int32) (lt : Int32) (sm : Int32) (ex : Int32) : kMi l y_Sta_stepsMade b_Sta_stepsMade 1 (some .int) 0 0 D kCl [(cG, .int), (cX, .int)] [.ref aS] [(aS, .inr (9, [.ref aG, .ref aX, .int nx, .int lt, .int sm, .int ex])), (aG, .inl (cG, 32, .inl g)), (aX, .inl (cX, 64, .inl sp))] (f_Sta_stepsMade sm) [(aS, .inr (9, [.ref aG, .ref aX, .int nx, .int lt, .int sm, .int ex])), (aG, .inl (cG, 32, .inl g)), (aX, .inl (cX, 64, .inl sp))] := by
  refine k_entry (Qc := fun A => kQi D kCl [(cG, .int), (cX, .int)] (f_Sta_stepsMade sm) [(aS, .inr (9, [.ref aG, .ref aX, .int nx, .int lt, .int sm, .int ex])), (aG, .inl (cG, 32, .inl g)), (aX, .inl (cX, 64, .inl sp))] A) (lv := [(0, .ref aS)]) (by decide) (Nat.le_of_ble_eq_true rfl) rfl ?_
  intro p e s m below meth c A ls hx hb hr hml hB hown hlocks hin hA hK hN hP hD hS hl
  have hown : s.vm.findClass "MappedProcessor$State" = some m.cls := hown
  refine lv_aload_n hx hb d_Sta_stepsMade_0 rfl (lv_at hl 0 rfl) ?_
  refine va_get (D := D) (ci := 9) (v := .int sm) (C := "MappedProcessor$State") (T := T_Sta) (N := 6) hx hb hB iw_Sta hown hK hP 0 rfl rfl 4 (by decide) (hB _ mw_43) (fun _ h9 => h9) rfl d_Sta_stepsMade_1 ?_
  have ef : f_Sta_stepsMade sm = sm := rfl
  exact k_iret hx hb hr hlocks hK hP hD hS [0, 1, 2] rfl rfl (by rw [ef] <;> rfl) d_Sta_stepsMade_4
