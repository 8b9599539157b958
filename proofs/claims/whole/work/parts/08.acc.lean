/-! MappedProcessor.causeBit(I)I -/
theorem d_Pro_causeBit_0 : decode b_Pro_causeBit 0 = .ok (.iload_n 0, 1) := by decide +kernel
theorem d_Pro_causeBit_1 : decode b_Pro_causeBit 1 = .ok (.iconst (-1), 1) := by decide +kernel
theorem d_Pro_causeBit_2 : decode b_Pro_causeBit 2 = .ok (.if_icmp .ne 6, 3) := by decide +kernel
theorem d_Pro_causeBit_5 : decode b_Pro_causeBit 5 = .ok (.ldc 138, 2) := by decide +kernel
theorem d_Pro_causeBit_7 : decode b_Pro_causeBit 7 = .ok (.ireturn, 1) := by decide +kernel
theorem d_Pro_causeBit_8 : decode b_Pro_causeBit 8 = .ok (.iload_n 0, 1) := by decide +kernel
theorem d_Pro_causeBit_9 : decode b_Pro_causeBit 9 = .ok (.bipush (-2), 2) := by decide +kernel
theorem d_Pro_causeBit_11 : decode b_Pro_causeBit 11 = .ok (.if_icmp .ne 8, 3) := by decide +kernel
theorem d_Pro_causeBit_14 : decode b_Pro_causeBit 14 = .ok (.ldc 139, 2) := by decide +kernel
theorem d_Pro_causeBit_16 : decode b_Pro_causeBit 16 = .ok (.goto 5, 3) := by decide +kernel
theorem d_Pro_causeBit_19 : decode b_Pro_causeBit 19 = .ok (.ldc 140, 2) := by decide +kernel
theorem d_Pro_causeBit_21 : decode b_Pro_causeBit 21 = .ok (.ireturn, 1) := by decide +kernel
def f_Pro_causeBit (p0 : Int32) : Int32 :=
  if p0 = (-1 : Int32) then
    (1073741824 : Int32)
  else
    (if p0 = (-2 : Int32) then (134217728 : Int32) else (268435456 : Int32))
set_option maxHeartbeats 4000000 in
set_option maxRecDepth 100000 in
theorem c_Pro_causeBit (l : Launch) (D : va_G) (p0 : Int32) : kMi l y_Pro_causeBit b_Pro_causeBit 1 (some .int) 0 0 D kCl [] [.int p0] [] (f_Pro_causeBit p0) [] := by
  refine k_entry (Qc := fun A => kQi D kCl [] (f_Pro_causeBit p0) [] A) (lv := [(0, .int p0)]) (by decide) (Nat.le_of_ble_eq_true rfl) rfl ?_
  intro p e s m below meth c A ls hx hb hr hml hB hown hlocks hin hA hK hN hP hD hS hl
  have hown : s.vm.findClass "MappedProcessor" = some m.cls := hown
  refine lv_iload_n hx hb d_Pro_causeBit_0 rfl (lv_at hl 0 rfl) ?_
  refine lv_iconst (v := (-1 : Int32)) hx hb d_Pro_causeBit_1 (by decide) ?_
  refine lv_icmp_ne (tgt := 8) hx hb d_Pro_causeBit_2 (by decide) (fun (h1 : ¬ p0 = (-1 : Int32)) => ?_) (fun (h1 : p0 = (-1 : Int32)) => ?_)
  · refine lv_iload_n hx hb d_Pro_causeBit_8 rfl (lv_at hl 0 rfl) ?_
    refine lv_bipush (v := (-2 : Int32)) hx hb d_Pro_causeBit_9 (by decide) ?_
    refine k_join2 (c0 := p0 = (-2 : Int32)) (x1 := (134217728 : Int32)) (x2 := (268435456 : Int32)) (rest := []) 21 ?_ (fun k3 k4 => ?_)
    rotate_left
    · refine lv_icmp_ne (tgt := 19) hx hb d_Pro_causeBit_11 (by decide) (fun (h2 : ¬ p0 = (-2 : Int32)) => ?_) (fun (h2 : p0 = (-2 : Int32)) => ?_)
      · refine lv_ldc (v := (268435456 : Int32)) hx hb hown (hB _ mw_353) d_Pro_causeBit_19 ?_
        exact k4 h2
      · refine lv_ldc (v := (134217728 : Int32)) hx hb hown (hB _ mw_352) d_Pro_causeBit_14 ?_
        refine lv_goto (tgt := 21) hx hb d_Pro_causeBit_16 (by decide) ?_
        exact k3 h2
    have ef : f_Pro_causeBit p0 = (if p0 = (-2 : Int32) then (134217728 : Int32) else (268435456 : Int32)) := by unfold f_Pro_causeBit; rw [if_neg h1]
    exact k_iret hx hb hr hlocks hK hP hD hS [] rfl rfl (by rw [ef] <;> rfl) d_Pro_causeBit_21
  · refine lv_ldc (v := (1073741824 : Int32)) hx hb hown (hB _ mw_351) d_Pro_causeBit_5 ?_
    have ef : f_Pro_causeBit p0 = (1073741824 : Int32) := by unfold f_Pro_causeBit; rw [if_pos h1]
    exact k_iret hx hb hr hlocks hK hP hD hS [] rfl rfl (by rw [ef] <;> rfl) d_Pro_causeBit_7
/-! MappedProcessor$Accesses.plainForm(I)I -/
theorem d_Acc_plainForm_0 : decode b_Acc_plainForm 0 = .ok (.iload_n 0, 1) := by decide +kernel
theorem d_Acc_plainForm_1 : decode b_Acc_plainForm 1 = .ok (.lookupswitch 55 #[(23, 43), (87, 46), (151, 49), (215, 52)], 43) := by decide +kernel
theorem d_Acc_plainForm_44 : decode b_Acc_plainForm 44 = .ok (.bipush 32, 2) := by decide +kernel
theorem d_Acc_plainForm_46 : decode b_Acc_plainForm 46 = .ok (.ireturn, 1) := by decide +kernel
theorem d_Acc_plainForm_47 : decode b_Acc_plainForm 47 = .ok (.bipush 34, 2) := by decide +kernel
theorem d_Acc_plainForm_49 : decode b_Acc_plainForm 49 = .ok (.ireturn, 1) := by decide +kernel
theorem d_Acc_plainForm_50 : decode b_Acc_plainForm 50 = .ok (.bipush 36, 2) := by decide +kernel
theorem d_Acc_plainForm_52 : decode b_Acc_plainForm 52 = .ok (.ireturn, 1) := by decide +kernel
theorem d_Acc_plainForm_53 : decode b_Acc_plainForm 53 = .ok (.bipush 38, 2) := by decide +kernel
theorem d_Acc_plainForm_55 : decode b_Acc_plainForm 55 = .ok (.ireturn, 1) := by decide +kernel
theorem d_Acc_plainForm_56 : decode b_Acc_plainForm 56 = .ok (.iconst (-1), 1) := by decide +kernel
theorem d_Acc_plainForm_57 : decode b_Acc_plainForm 57 = .ok (.ireturn, 1) := by decide +kernel
def f_Acc_plainForm (p0 : Int32) : Int32 :=
  if p0 = (23 : Int32) then
    (32 : Int32)
  else
    if p0 = (87 : Int32) then
      (34 : Int32)
    else
      if p0 = (151 : Int32) then
        (36 : Int32)
      else
        if p0 = (215 : Int32) then
          (38 : Int32)
        else
          (-1 : Int32)
set_option maxHeartbeats 4000000 in
set_option maxRecDepth 100000 in
theorem c_Acc_plainForm (l : Launch) (D : va_G) (p0 : Int32) : kMi l y_Acc_plainForm b_Acc_plainForm 1 (some .int) 0 0 D kCl [] [.int p0] [] (f_Acc_plainForm p0) [] := by
  refine k_entry (Qc := fun A => kQi D kCl [] (f_Acc_plainForm p0) [] A) (lv := [(0, .int p0)]) (by decide) (Nat.le_of_ble_eq_true rfl) rfl ?_
  intro p e s m below meth c A ls hx hb hr hml hB hown hlocks hin hA hK hN hP hD hS hl
  have hown : s.vm.findClass "MappedProcessor$Accesses" = some m.cls := hown
  refine lv_iload_n hx hb d_Acc_plainForm_0 rfl (lv_at hl 0 rfl) ?_
  by_cases h1 : p0 = (23 : Int32)
  · refine lv_lookup (off := 43) (tgt := 44) hx hb d_Acc_plainForm_1 (by decide) (by have hq9 := h1 <;> rw [hq9] <;> rfl) (by decide) ?_
    refine lv_bipush (v := (32 : Int32)) hx hb d_Acc_plainForm_44 (by decide) ?_
    have ef : f_Acc_plainForm p0 = (32 : Int32) := by unfold f_Acc_plainForm; rw [if_pos h1]
    exact k_iret hx hb hr hlocks hK hP hD hS [] rfl rfl (by rw [ef] <;> rfl) d_Acc_plainForm_46
  · by_cases h2 : p0 = (87 : Int32)
    · refine lv_lookup (off := 46) (tgt := 47) hx hb d_Acc_plainForm_1 (by decide) (by have hq9 := h2 <;> rw [hq9] <;> rfl) (by decide) ?_
      refine lv_bipush (v := (34 : Int32)) hx hb d_Acc_plainForm_47 (by decide) ?_
      have ef : f_Acc_plainForm p0 = (34 : Int32) := by unfold f_Acc_plainForm; rw [if_neg h1, if_pos h2]
      exact k_iret hx hb hr hlocks hK hP hD hS [] rfl rfl (by rw [ef] <;> rfl) d_Acc_plainForm_49
    · by_cases h3 : p0 = (151 : Int32)
      · refine lv_lookup (off := 49) (tgt := 50) hx hb d_Acc_plainForm_1 (by decide) (by have hq9 := h3 <;> rw [hq9] <;> rfl) (by decide) ?_
        refine lv_bipush (v := (36 : Int32)) hx hb d_Acc_plainForm_50 (by decide) ?_
        have ef : f_Acc_plainForm p0 = (36 : Int32) := by unfold f_Acc_plainForm; rw [if_neg h1, if_neg h2, if_pos h3]
        exact k_iret hx hb hr hlocks hK hP hD hS [] rfl rfl (by rw [ef] <;> rfl) d_Acc_plainForm_52
      · by_cases h4 : p0 = (215 : Int32)
        · refine lv_lookup (off := 52) (tgt := 53) hx hb d_Acc_plainForm_1 (by decide) (by have hq9 := h4 <;> rw [hq9] <;> rfl) (by decide) ?_
          refine lv_bipush (v := (38 : Int32)) hx hb d_Acc_plainForm_53 (by decide) ?_
          have ef : f_Acc_plainForm p0 = (38 : Int32) := by unfold f_Acc_plainForm; rw [if_neg h1, if_neg h2, if_neg h3, if_pos h4]
          exact k_iret hx hb hr hlocks hK hP hD hS [] rfl rfl (by rw [ef] <;> rfl) d_Acc_plainForm_55
        · refine lv_lookup (off := 55) (tgt := 56) hx hb d_Acc_plainForm_1 (by decide) (by rw [lv_osw (k := (23 : Int32)) h1 (by decide), lv_osw (k := (87 : Int32)) h2 (by decide), lv_osw (k := (151 : Int32)) h3 (by decide), lv_osw (k := (215 : Int32)) h4 (by decide)]; rfl) (by decide) ?_
          refine lv_iconst (v := (-1 : Int32)) hx hb d_Acc_plainForm_56 (by decide) ?_
          have ef : f_Acc_plainForm p0 = (-1 : Int32) := by unfold f_Acc_plainForm; rw [if_neg h1, if_neg h2, if_neg h3, if_neg h4]
          exact k_iret hx hb hr hlocks hK hP hD hS [] rfl rfl (by rw [ef] <;> rfl) d_Acc_plainForm_57
/-! MappedProcessor$Accesses.sizeOf(I)I -/
theorem d_Acc_sizeOf_0 : decode b_Acc_sizeOf 0 = .ok (.iload_n 0, 1) := by decide +kernel
theorem d_Acc_sizeOf_1 : decode b_Acc_sizeOf 1 = .ok (.tableswitch 73 32 44 #[67, 67, 71, 71, 67, 67, 71, 71, 69, 73, 69, 73, 69], 67) := by decide +kernel
theorem d_Acc_sizeOf_68 : decode b_Acc_sizeOf 68 = .ok (.iconst 4, 1) := by decide +kernel
theorem d_Acc_sizeOf_69 : decode b_Acc_sizeOf 69 = .ok (.ireturn, 1) := by decide +kernel
theorem d_Acc_sizeOf_70 : decode b_Acc_sizeOf 70 = .ok (.iconst 2, 1) := by decide +kernel
theorem d_Acc_sizeOf_71 : decode b_Acc_sizeOf 71 = .ok (.ireturn, 1) := by decide +kernel
theorem d_Acc_sizeOf_72 : decode b_Acc_sizeOf 72 = .ok (.iconst 1, 1) := by decide +kernel
theorem d_Acc_sizeOf_73 : decode b_Acc_sizeOf 73 = .ok (.ireturn, 1) := by decide +kernel
theorem d_Acc_sizeOf_74 : decode b_Acc_sizeOf 74 = .ok (.iconst 0, 1) := by decide +kernel
theorem d_Acc_sizeOf_75 : decode b_Acc_sizeOf 75 = .ok (.ireturn, 1) := by decide +kernel
def f_Acc_sizeOf (p0 : Int32) : Int32 :=
  if p0 = (32 : Int32) ∨ p0 = (33 : Int32) ∨ p0 = (36 : Int32) ∨ p0 = (37 : Int32) then
    (4 : Int32)
  else
    if p0 = (34 : Int32) ∨ p0 = (35 : Int32) ∨ p0 = (38 : Int32) ∨ p0 = (39 : Int32) then
      (1 : Int32)
    else
      if p0 = (40 : Int32) ∨ p0 = (42 : Int32) ∨ p0 = (44 : Int32) then
        (2 : Int32)
      else
        (0 : Int32)
set_option maxHeartbeats 4000000 in
set_option maxRecDepth 100000 in
theorem c_Acc_sizeOf (l : Launch) (D : va_G) (p0 : Int32) : kMi l y_Acc_sizeOf b_Acc_sizeOf 1 (some .int) 0 0 D kCl [] [.int p0] [] (f_Acc_sizeOf p0) [] := by
  refine k_entry (Qc := fun A => kQi D kCl [] (f_Acc_sizeOf p0) [] A) (lv := [(0, .int p0)]) (by decide) (Nat.le_of_ble_eq_true rfl) rfl ?_
  intro p e s m below meth c A ls hx hb hr hml hB hown hlocks hin hA hK hN hP hD hS hl
  have hown : s.vm.findClass "MappedProcessor$Accesses" = some m.cls := hown
  refine lv_iload_n hx hb d_Acc_sizeOf_0 rfl (lv_at hl 0 rfl) ?_
  by_cases h1 : p0 = (32 : Int32) ∨ p0 = (33 : Int32) ∨ p0 = (36 : Int32) ∨ p0 = (37 : Int32)
  · refine k_table (off := 67) (tgt := 68) hx hb d_Acc_sizeOf_1 (by rcases h1 with hq9 | hq9 | hq9 | hq9 <;> rw [hq9] <;> rfl) (by decide) ?_
    refine lv_iconst (v := (4 : Int32)) hx hb d_Acc_sizeOf_68 (by decide) ?_
    have ef : f_Acc_sizeOf p0 = (4 : Int32) := by unfold f_Acc_sizeOf; rw [if_pos h1]
    exact k_iret hx hb hr hlocks hK hP hD hS [] rfl rfl (by rw [ef] <;> rfl) d_Acc_sizeOf_69
  · by_cases h2 : p0 = (34 : Int32) ∨ p0 = (35 : Int32) ∨ p0 = (38 : Int32) ∨ p0 = (39 : Int32)
    · refine k_table (off := 71) (tgt := 72) hx hb d_Acc_sizeOf_1 (by rcases h2 with hq9 | hq9 | hq9 | hq9 <;> rw [hq9] <;> rfl) (by decide) ?_
      refine lv_iconst (v := (1 : Int32)) hx hb d_Acc_sizeOf_72 (by decide) ?_
      have ef : f_Acc_sizeOf p0 = (1 : Int32) := by unfold f_Acc_sizeOf; rw [if_neg h1, if_pos h2]
      exact k_iret hx hb hr hlocks hK hP hD hS [] rfl rfl (by rw [ef] <;> rfl) d_Acc_sizeOf_73
    · by_cases h3 : p0 = (40 : Int32) ∨ p0 = (42 : Int32) ∨ p0 = (44 : Int32)
      · refine k_table (off := 69) (tgt := 70) hx hb d_Acc_sizeOf_1 (by rcases h3 with hq9 | hq9 | hq9 <;> rw [hq9] <;> rfl) (by decide) ?_
        refine lv_iconst (v := (2 : Int32)) hx hb d_Acc_sizeOf_70 (by decide) ?_
        have ef : f_Acc_sizeOf p0 = (2 : Int32) := by unfold f_Acc_sizeOf; rw [if_neg h1, if_neg h2, if_pos h3]
        exact k_iret hx hb hr hlocks hK hP hD hS [] rfl rfl (by rw [ef] <;> rfl) d_Acc_sizeOf_71
      · refine k_table (off := 73) (tgt := 74) hx hb d_Acc_sizeOf_1 (by
            have ee0 := lv_neT (a := 32) (fun hq9 => h1 (Or.inl hq9)) (by decide); have ee1 := lv_neT (a := 33) (fun hq9 => h1 (Or.inr (Or.inl hq9))) (by decide); have ee2 := lv_neT (a := 36) (fun hq9 => h1 (Or.inr (Or.inr (Or.inl hq9)))) (by decide); have ee3 := lv_neT (a := 37) (fun hq9 => h1 (Or.inr (Or.inr (Or.inr (hq9))))) (by decide); have ee4 := lv_neT (a := 34) (fun hq9 => h2 (Or.inl hq9)) (by decide); have ee5 := lv_neT (a := 35) (fun hq9 => h2 (Or.inr (Or.inl hq9))) (by decide); have ee6 := lv_neT (a := 38) (fun hq9 => h2 (Or.inr (Or.inr (Or.inl hq9)))) (by decide); have ee7 := lv_neT (a := 39) (fun hq9 => h2 (Or.inr (Or.inr (Or.inr (hq9))))) (by decide); have ee8 := lv_neT (a := 40) (fun hq9 => h3 (Or.inl hq9)) (by decide); have ee9 := lv_neT (a := 42) (fun hq9 => h3 (Or.inr (Or.inl hq9))) (by decide); have ee10 := lv_neT (a := 44) (fun hq9 => h3 (Or.inr (Or.inr (hq9)))) (by decide)
            by_cases hq9 : p0.toInt < 32 ∨ 44 < p0.toInt
            · rw [if_pos hq9]
            · rw [if_neg hq9]
              have eg : p0.toInt = 41 ∨ p0.toInt = 43 := by omega
              rcases eg with eg | eg <;> rw [eg] <;> rfl) (by decide) ?_
        refine lv_iconst (v := (0 : Int32)) hx hb d_Acc_sizeOf_74 (by decide) ?_
        have ef : f_Acc_sizeOf p0 = (0 : Int32) := by unfold f_Acc_sizeOf; rw [if_neg h1, if_neg h2, if_neg h3]
        exact k_iret hx hb hr hlocks hK hP hD hS [] rfl rfl (by rw [ef] <;> rfl) d_Acc_sizeOf_75
/-! MappedProcessor$Accesses.stores(I)Z -/
theorem d_Acc_stores_0 : decode b_Acc_stores 0 = .ok (.iload_n 0, 1) := by decide +kernel
theorem d_Acc_stores_1 : decode b_Acc_stores 1 = .ok (.bipush 36, 2) := by decide +kernel
theorem d_Acc_stores_3 : decode b_Acc_stores 3 = .ok (.if_icmp .lt 9, 3) := by decide +kernel
theorem d_Acc_stores_6 : decode b_Acc_stores 6 = .ok (.iload_n 0, 1) := by decide +kernel
theorem d_Acc_stores_7 : decode b_Acc_stores 7 = .ok (.bipush 39, 2) := by decide +kernel
theorem d_Acc_stores_9 : decode b_Acc_stores 9 = .ok (.if_icmp .le 9, 3) := by decide +kernel
theorem d_Acc_stores_12 : decode b_Acc_stores 12 = .ok (.iload_n 0, 1) := by decide +kernel
theorem d_Acc_stores_13 : decode b_Acc_stores 13 = .ok (.bipush 44, 2) := by decide +kernel
theorem d_Acc_stores_15 : decode b_Acc_stores 15 = .ok (.if_icmp .ne 7, 3) := by decide +kernel
theorem d_Acc_stores_18 : decode b_Acc_stores 18 = .ok (.iconst 1, 1) := by decide +kernel
theorem d_Acc_stores_19 : decode b_Acc_stores 19 = .ok (.goto 4, 3) := by decide +kernel
theorem d_Acc_stores_22 : decode b_Acc_stores 22 = .ok (.iconst 0, 1) := by decide +kernel
theorem d_Acc_stores_23 : decode b_Acc_stores 23 = .ok (.ireturn, 1) := by decide +kernel
def f_Acc_stores (p0 : Int32) : Int32 :=
  (if p0 < (36 : Int32) then (if p0 = (44 : Int32) then (1 : Int32) else (0 : Int32)) else (if p0 ≤ (39 : Int32) then (1 : Int32) else (if p0 = (44 : Int32) then (1 : Int32) else (0 : Int32))))
set_option maxHeartbeats 4000000 in
set_option maxRecDepth 100000 in
theorem ib_Acc_stores (p0 : Int32) : isB (f_Acc_stores p0) := by
  unfold f_Acc_stores
  try dsimp only
  repeat' (first | refine ib_ite ?_ ?_ | refine ib_ite0 ?_ ?_ | with_reducible exact ib0 | with_reducible exact ib1 | (dsimp only; first | exact ib0 | exact ib1))
theorem nb_Acc_stores (p0 : Int32) : narrow .boolean (.int (f_Acc_stores p0)) = .int (f_Acc_stores p0) := nb_of (ib_Acc_stores p0)
set_option maxHeartbeats 4000000 in
set_option maxRecDepth 100000 in
theorem c_Acc_stores (l : Launch) (D : va_G) (p0 : Int32) : kMi l y_Acc_stores b_Acc_stores 1 (some .boolean) 0 0 D kCl [] [.int p0] [] (f_Acc_stores p0) [] := by
  refine k_entry (Qc := fun A => kQi D kCl [] (f_Acc_stores p0) [] A) (lv := [(0, .int p0)]) (by decide) (Nat.le_of_ble_eq_true rfl) rfl ?_
  intro p e s m below meth c A ls hx hb hr hml hB hown hlocks hin hA hK hN hP hD hS hl
  have hown : s.vm.findClass "MappedProcessor$Accesses" = some m.cls := hown
  refine lv_iload_n hx hb d_Acc_stores_0 rfl (lv_at hl 0 rfl) ?_
  refine lv_bipush (v := (36 : Int32)) hx hb d_Acc_stores_1 (by decide) ?_
  refine k_join2 (c0 := p0 < (36 : Int32)) (x1 := (if p0 = (44 : Int32) then (1 : Int32) else (0 : Int32))) (x2 := (if p0 ≤ (39 : Int32) then (1 : Int32) else (if p0 = (44 : Int32) then (1 : Int32) else (0 : Int32)))) (rest := []) 23 ?_ (fun k2 k3 => ?_)
  rotate_left
  · refine lv_icmp_lt (tgt := 12) hx hb d_Acc_stores_3 (by decide) (fun (h1 : p0 < (36 : Int32)) => ?_) (fun (h1 : ¬ p0 < (36 : Int32)) => ?_)
    · refine lv_iload_n hx hb d_Acc_stores_12 rfl (lv_at hl 0 rfl) ?_
      refine lv_bipush (v := (44 : Int32)) hx hb d_Acc_stores_13 (by decide) ?_
      refine k_join2 (c0 := p0 = (44 : Int32)) (x1 := (1 : Int32)) (x2 := (0 : Int32)) (rest := []) 23 ?_ (fun k5 k6 => ?_)
      rotate_left
      · refine lv_icmp_ne (tgt := 22) hx hb d_Acc_stores_15 (by decide) (fun (h4 : ¬ p0 = (44 : Int32)) => ?_) (fun (h4 : p0 = (44 : Int32)) => ?_)
        · refine lv_iconst (v := (0 : Int32)) hx hb d_Acc_stores_22 (by decide) ?_
          exact k6 h4
        · refine lv_iconst (v := (1 : Int32)) hx hb d_Acc_stores_18 (by decide) ?_
          refine lv_goto (tgt := 23) hx hb d_Acc_stores_19 (by decide) ?_
          exact k5 h4
      exact k2 h1
    · refine lv_iload_n hx hb d_Acc_stores_6 rfl (lv_at hl 0 rfl) ?_
      refine lv_bipush (v := (39 : Int32)) hx hb d_Acc_stores_7 (by decide) ?_
      refine k_join2 (c0 := p0 ≤ (39 : Int32)) (x1 := (1 : Int32)) (x2 := (if p0 = (44 : Int32) then (1 : Int32) else (0 : Int32))) (rest := []) 23 ?_ (fun k10 k11 => ?_)
      rotate_left
      · refine lv_icmp_le (tgt := 18) hx hb d_Acc_stores_9 (by decide) (fun (h9 : p0 ≤ (39 : Int32)) => ?_) (fun (h9 : ¬ p0 ≤ (39 : Int32)) => ?_)
        · refine lv_iconst (v := (1 : Int32)) hx hb d_Acc_stores_18 (by decide) ?_
          refine lv_goto (tgt := 23) hx hb d_Acc_stores_19 (by decide) ?_
          exact k10 h9
        · refine lv_iload_n hx hb d_Acc_stores_12 rfl (lv_at hl 0 rfl) ?_
          refine lv_bipush (v := (44 : Int32)) hx hb d_Acc_stores_13 (by decide) ?_
          refine k_join2 (c0 := p0 = (44 : Int32)) (x1 := (1 : Int32)) (x2 := (0 : Int32)) (rest := []) 23 ?_ (fun k13 k14 => ?_)
          rotate_left
          · refine lv_icmp_ne (tgt := 22) hx hb d_Acc_stores_15 (by decide) (fun (h12 : ¬ p0 = (44 : Int32)) => ?_) (fun (h12 : p0 = (44 : Int32)) => ?_)
            · refine lv_iconst (v := (0 : Int32)) hx hb d_Acc_stores_22 (by decide) ?_
              exact k14 h12
            · refine lv_iconst (v := (1 : Int32)) hx hb d_Acc_stores_18 (by decide) ?_
              refine lv_goto (tgt := 23) hx hb d_Acc_stores_19 (by decide) ?_
              exact k13 h12
          exact k11 h9
      exact k3 h1
  have ef : f_Acc_stores p0 = (if p0 < (36 : Int32) then (if p0 = (44 : Int32) then (1 : Int32) else (0 : Int32)) else (if p0 ≤ (39 : Int32) then (1 : Int32) else (if p0 = (44 : Int32) then (1 : Int32) else (0 : Int32)))) := rfl
  exact k_zret hx hb hr hlocks hK hP hD hS [] rfl rfl (by rw [ef] <;> rfl) (nb_ite (nb_ite nb1 nb0) (nb_ite nb1 (nb_ite nb1 nb0))) d_Acc_stores_23
/-! MappedProcessor$Accesses.refuse(III)V -/
theorem d_Acc_refuse_0 : decode b_Acc_refuse 0 = .ok (.aload_n 0, 1) := by decide +kernel
theorem d_Acc_refuse_1 : decode b_Acc_refuse 1 = .ok (.getfield 15, 3) := by decide +kernel
theorem d_Acc_refuse_4 : decode b_Acc_refuse 4 = .ok (.sipush 768, 3) := by decide +kernel
theorem d_Acc_refuse_7 : decode b_Acc_refuse 7 = .ok (.iconst 0, 1) := by decide +kernel
theorem d_Acc_refuse_8 : decode b_Acc_refuse 8 = .ok (.invokevirtual 78, 3) := by decide +kernel
theorem d_Acc_refuse_11 : decode b_Acc_refuse 11 = .ok (.aload_n 0, 1) := by decide +kernel
theorem d_Acc_refuse_12 : decode b_Acc_refuse 12 = .ok (.getfield 15, 3) := by decide +kernel
theorem d_Acc_refuse_15 : decode b_Acc_refuse 15 = .ok (.bipush 9, 2) := by decide +kernel
theorem d_Acc_refuse_17 : decode b_Acc_refuse 17 = .ok (.iload_n 1, 1) := by decide +kernel
theorem d_Acc_refuse_18 : decode b_Acc_refuse 18 = .ok (.invokevirtual 81, 3) := by decide +kernel
theorem d_Acc_refuse_21 : decode b_Acc_refuse 21 = .ok (.aload_n 0, 1) := by decide +kernel
theorem d_Acc_refuse_22 : decode b_Acc_refuse 22 = .ok (.getfield 15, 3) := by decide +kernel
theorem d_Acc_refuse_25 : decode b_Acc_refuse 25 = .ok (.bipush 8, 2) := by decide +kernel
theorem d_Acc_refuse_27 : decode b_Acc_refuse 27 = .ok (.iload_n 3, 1) := by decide +kernel
theorem d_Acc_refuse_28 : decode b_Acc_refuse 28 = .ok (.invokestatic 106, 3) := by decide +kernel
theorem d_Acc_refuse_31 : decode b_Acc_refuse 31 = .ok (.iload_n 2, 1) := by decide +kernel
theorem d_Acc_refuse_32 : decode b_Acc_refuse 32 = .ok (.iconst 2, 1) := by decide +kernel
theorem d_Acc_refuse_33 : decode b_Acc_refuse 33 = .ok (.if_icmp .ne 8, 3) := by decide +kernel
theorem d_Acc_refuse_36 : decode b_Acc_refuse 36 = .ok (.ldc 109, 2) := by decide +kernel
theorem d_Acc_refuse_38 : decode b_Acc_refuse 38 = .ok (.goto 4, 3) := by decide +kernel
theorem d_Acc_refuse_41 : decode b_Acc_refuse 41 = .ok (.iconst 0, 1) := by decide +kernel
theorem d_Acc_refuse_42 : decode b_Acc_refuse 42 = .ok (.ior, 1) := by decide +kernel
theorem d_Acc_refuse_43 : decode b_Acc_refuse 43 = .ok (.invokevirtual 81, 3) := by decide +kernel
theorem d_Acc_refuse_46 : decode b_Acc_refuse 46 = .ok (.return_, 1) := by decide +kernel
def f_Acc_refuse (p0 : Int32) (p1 : Int32) (p2 : Int32) (sp : Nat → Int32) (ex : Int32) : (Nat → Int32) × Int32 × Int32 × Int32 :=
  let t1 := (f_Sta_raise (768 : Int32) (0 : Int32) sp ex)
  ((f_Sta_keep (8 : Int32) ((f_Pro_causeBit p2) ||| (if p1 = (2 : Int32) then (33554432 : Int32) else (0 : Int32))) (f_Sta_keep (9 : Int32) p0 t1.1)), t1.2.1, t1.2.2.1, t1.2.2.2)
set_option maxHeartbeats 4000000 in
set_option maxRecDepth 100000 in
theorem c_Acc_refuse (l : Launch) (D : va_G) (aM aW aS aG aX aQ aZ : Nat) (cW cG cX : ClassId) (w : Nat → Int32) (g : Nat → Int32) (sp : Nat → Int32) (nx : Int32) (lt : Int32) (sm : Int32) (ex : Int32) (en : Int32) (p0 : Int32) (p1 : Int32) (p2 : Int32) : kMv l y_Acc_refuse b_Acc_refuse 4 none 1 22 D kCl [(cW, .int), (cG, .int), (cX, .int)] [.ref aZ, .int p0, .int p1, .int p2] [(aM, .inr (8, [.ref aW])), (aW, .inl (cW, 16384, .inl w)), (aS, .inr (9, [.ref aG, .ref aX, .int nx, .int lt, .int sm, .int ex])), (aG, .inl (cG, 32, .inl g)), (aX, .inl (cX, 64, .inl sp)), (aQ, .inr (7, [.ref aM, .ref aS, .int en])), (aZ, .inr (0, [.ref aM, .ref aS, .ref aQ]))] [(aM, .inr (8, [.ref aW])), (aW, .inl (cW, 16384, .inl w)), (aS, .inr (9, [.ref aG, .ref aX, .int (f_Acc_refuse p0 p1 p2 sp ex).2.1, .int (f_Acc_refuse p0 p1 p2 sp ex).2.2.1, .int sm, .int (f_Acc_refuse p0 p1 p2 sp ex).2.2.2])), (aG, .inl (cG, 32, .inl g)), (aX, .inl (cX, 64, .inl (f_Acc_refuse p0 p1 p2 sp ex).1)), (aQ, .inr (7, [.ref aM, .ref aS, .int en])), (aZ, .inr (0, [.ref aM, .ref aS, .ref aQ]))] := by
  refine k_entry (Qc := fun A => kQv D kCl [(cW, .int), (cG, .int), (cX, .int)] [(aM, .inr (8, [.ref aW])), (aW, .inl (cW, 16384, .inl w)), (aS, .inr (9, [.ref aG, .ref aX, .int (f_Acc_refuse p0 p1 p2 sp ex).2.1, .int (f_Acc_refuse p0 p1 p2 sp ex).2.2.1, .int sm, .int (f_Acc_refuse p0 p1 p2 sp ex).2.2.2])), (aG, .inl (cG, 32, .inl g)), (aX, .inl (cX, 64, .inl (f_Acc_refuse p0 p1 p2 sp ex).1)), (aQ, .inr (7, [.ref aM, .ref aS, .int en])), (aZ, .inr (0, [.ref aM, .ref aS, .ref aQ]))] A) (lv := [(0, .ref aZ), (1, .int p0), (2, .int p1), (3, .int p2)]) (by decide) (Nat.le_of_ble_eq_true rfl) rfl ?_
  intro p e s m below meth c A ls hx hb hr hml hB hown hlocks hin hA hK hN hP hD hS hl
  have hown : s.vm.findClass "MappedProcessor$Accesses" = some m.cls := hown
  refine lv_aload_n hx hb d_Acc_refuse_0 rfl (lv_at hl 0 rfl) ?_
  refine va_get (D := D) (ci := 0) (v := .ref aS) (C := "MappedProcessor$Accesses") (T := T_Acc) (N := 3) hx hb hB iw_Acc hown hK hP 6 rfl rfl 1 (by decide) (hB _ mw_200) (fun _ h9 => h9) rfl d_Acc_refuse_1 ?_
  refine lv_sipush (v := (768 : Int32)) hx hb d_Acc_refuse_4 (by decide) ?_
  refine lv_iconst (v := (0 : Int32)) hx hb d_Acc_refuse_7 (by decide) ?_
  let t1 := (f_Sta_raise (768 : Int32) (0 : Int32) sp ex)
  refine k_cVv (As := [.int (768 : Int32), .int (0 : Int32)]) (rest := []) (wr := [(aM, .inr (8, [.ref aW])), (aW, .inl (cW, 16384, .inl w)), (aQ, .inr (7, [.ref aM, .ref aS, .int en])), (aZ, .inr (0, [.ref aM, .ref aS, .ref aQ]))]) (wj := [(aM, .inr (8, [.ref aW])), (aW, .inl (cW, 16384, .inl w)), (aS, .inr (9, [.ref aG, .ref aX, .int t1.2.1, .int t1.2.2.1, .int sm, .int t1.2.2.2])), (aG, .inl (cG, 32, .inl g)), (aX, .inl (cX, 64, .inl t1.1)), (aQ, .inr (7, [.ref aM, .ref aS, .int en])), (aZ, .inr (0, [.ref aM, .ref aS, .ref aQ]))]) ⟨hx, hb, hml, hown, hB⟩ (c_Sta_raise l D aS aG aX cG cX g sp nx lt sm ex (768 : Int32) (0 : Int32)) yl_Sta_raise mw_572 hK hN hP hD hS hA [1, 2] [2, 3, 4] [0, 1, 5, 6] [0, 1, 4, 5, 6, 2, 3] rfl rfl rfl rfl (by decide +kernel) 0 rfl rfl rfl rfl hl.1 rfl (Nat.le_of_ble_eq_true rfl) ⟨Nat.le_of_ble_eq_true rfl, Nat.le_of_ble_eq_true rfl⟩ d_Acc_refuse_8 ⟨Nat.le_of_ble_eq_true rfl, Nat.le_of_ble_eq_true rfl⟩ (fun H locs hP hD hS => ?_)
  refine lv_aload_n hx hb d_Acc_refuse_11 rfl (lv_at hl 0 rfl) ?_
  refine va_get (D := D) (ci := 0) (v := .ref aS) (C := "MappedProcessor$Accesses") (T := T_Acc) (N := 3) hx hb hB iw_Acc hown hK hP 6 rfl rfl 1 (by decide) (hB _ mw_200) (fun _ h9 => h9) rfl d_Acc_refuse_12 ?_
  refine lv_bipush (v := (9 : Int32)) hx hb d_Acc_refuse_15 (by decide) ?_
  refine lv_iload_n hx hb d_Acc_refuse_17 rfl (lv_at hl 1 rfl) ?_
  refine k_cVv (As := [.int (9 : Int32), .int p0]) (rest := []) (wr := [(aM, .inr (8, [.ref aW])), (aW, .inl (cW, 16384, .inl w)), (aQ, .inr (7, [.ref aM, .ref aS, .int en])), (aZ, .inr (0, [.ref aM, .ref aS, .ref aQ]))]) (wj := [(aM, .inr (8, [.ref aW])), (aW, .inl (cW, 16384, .inl w)), (aS, .inr (9, [.ref aG, .ref aX, .int t1.2.1, .int t1.2.2.1, .int sm, .int t1.2.2.2])), (aG, .inl (cG, 32, .inl g)), (aX, .inl (cX, 64, .inl (f_Sta_keep (9 : Int32) p0 t1.1))), (aQ, .inr (7, [.ref aM, .ref aS, .int en])), (aZ, .inr (0, [.ref aM, .ref aS, .ref aQ]))]) ⟨hx, hb, hml, hown, hB⟩ (c_Sta_keep l D aS aG aX cG cX g t1.1 t1.2.1 t1.2.2.1 sm t1.2.2.2 (9 : Int32) p0) yl_Sta_keep mw_573 hK hN hP hD hS hA [1, 2] [2, 3, 4] [0, 1, 5, 6] [0, 1, 4, 5, 6, 2, 3] rfl rfl rfl rfl (by decide +kernel) 0 rfl rfl rfl rfl hl.1 rfl (Nat.le_of_ble_eq_true rfl) ⟨Nat.le_of_ble_eq_true rfl, Nat.le_of_ble_eq_true rfl⟩ d_Acc_refuse_18 ⟨Nat.le_of_ble_eq_true rfl, Nat.le_of_ble_eq_true rfl⟩ (fun H locs hP hD hS => ?_)
  refine lv_aload_n hx hb d_Acc_refuse_21 rfl (lv_at hl 0 rfl) ?_
  refine va_get (D := D) (ci := 0) (v := .ref aS) (C := "MappedProcessor$Accesses") (T := T_Acc) (N := 3) hx hb hB iw_Acc hown hK hP 6 rfl rfl 1 (by decide) (hB _ mw_200) (fun _ h9 => h9) rfl d_Acc_refuse_22 ?_
  refine lv_bipush (v := (8 : Int32)) hx hb d_Acc_refuse_25 (by decide) ?_
  refine lv_iload_n hx hb d_Acc_refuse_27 rfl (lv_at hl 3 rfl) ?_
  refine k_cSNi (As := [.int p2]) (rest := [.int (8 : Int32), .ref aS]) (wr := [(aM, .inr (8, [.ref aW])), (aW, .inl (cW, 16384, .inl w)), (aS, .inr (9, [.ref aG, .ref aX, .int t1.2.1, .int t1.2.2.1, .int sm, .int t1.2.2.2])), (aG, .inl (cG, 32, .inl g)), (aX, .inl (cX, 64, .inl (f_Sta_keep (9 : Int32) p0 t1.1))), (aQ, .inr (7, [.ref aM, .ref aS, .int en])), (aZ, .inr (0, [.ref aM, .ref aS, .ref aQ]))]) (wj := [(aM, .inr (8, [.ref aW])), (aW, .inl (cW, 16384, .inl w)), (aS, .inr (9, [.ref aG, .ref aX, .int t1.2.1, .int t1.2.2.1, .int sm, .int t1.2.2.2])), (aG, .inl (cG, 32, .inl g)), (aX, .inl (cX, 64, .inl (f_Sta_keep (9 : Int32) p0 t1.1))), (aQ, .inr (7, [.ref aM, .ref aS, .int en])), (aZ, .inr (0, [.ref aM, .ref aS, .ref aQ]))]) ⟨hx, hb, hml, hown, hB⟩ (c_Pro_causeBit l D p2) yl_Pro_causeBit nw_Acc_106 hK hN hP hD hS hA [] [] [0, 1, 2, 3, 4, 5, 6] [0, 1, 2, 3, 4, 5, 6] rfl rfl rfl rfl (by decide +kernel) rfl hl.1 rfl (Nat.le_of_ble_eq_true rfl) ⟨Nat.le_of_ble_eq_true rfl, Nat.le_of_ble_eq_true rfl⟩ d_Acc_refuse_28 ⟨Nat.le_of_ble_eq_true rfl, Nat.le_of_ble_eq_true rfl⟩ (fun H locs hP hD hS => ?_)
  refine lv_iload_n hx hb d_Acc_refuse_31 rfl (lv_at hl 2 rfl) ?_
  refine lv_iconst (v := (2 : Int32)) hx hb d_Acc_refuse_32 (by decide) ?_
  refine k_join2 (c0 := p1 = (2 : Int32)) (x1 := (33554432 : Int32)) (x2 := (0 : Int32)) (rest := [.int (f_Pro_causeBit p2), .int (8 : Int32), .ref aS]) 42 ?_ (fun k3 k4 => ?_)
  rotate_left
  · refine lv_icmp_ne (tgt := 41) hx hb d_Acc_refuse_33 (by decide) (fun (h2 : ¬ p1 = (2 : Int32)) => ?_) (fun (h2 : p1 = (2 : Int32)) => ?_)
    · refine lv_iconst (v := (0 : Int32)) hx hb d_Acc_refuse_41 (by decide) ?_
      exact k4 h2
    · refine lv_ldc (v := (33554432 : Int32)) hx hb hown (hB _ mw_583) d_Acc_refuse_36 ?_
      refine lv_goto (tgt := 42) hx hb d_Acc_refuse_38 (by decide) ?_
      exact k3 h2
  refine lv_ior hx hb d_Acc_refuse_42 ?_
  refine k_cVv (As := [.int (8 : Int32), .int ((f_Pro_causeBit p2) ||| (if p1 = (2 : Int32) then (33554432 : Int32) else (0 : Int32)))]) (rest := []) (wr := [(aM, .inr (8, [.ref aW])), (aW, .inl (cW, 16384, .inl w)), (aQ, .inr (7, [.ref aM, .ref aS, .int en])), (aZ, .inr (0, [.ref aM, .ref aS, .ref aQ]))]) (wj := [(aM, .inr (8, [.ref aW])), (aW, .inl (cW, 16384, .inl w)), (aS, .inr (9, [.ref aG, .ref aX, .int t1.2.1, .int t1.2.2.1, .int sm, .int t1.2.2.2])), (aG, .inl (cG, 32, .inl g)), (aX, .inl (cX, 64, .inl (f_Sta_keep (8 : Int32) ((f_Pro_causeBit p2) ||| (if p1 = (2 : Int32) then (33554432 : Int32) else (0 : Int32))) (f_Sta_keep (9 : Int32) p0 t1.1)))), (aQ, .inr (7, [.ref aM, .ref aS, .int en])), (aZ, .inr (0, [.ref aM, .ref aS, .ref aQ]))]) ⟨hx, hb, hml, hown, hB⟩ (c_Sta_keep l D aS aG aX cG cX g (f_Sta_keep (9 : Int32) p0 t1.1) t1.2.1 t1.2.2.1 sm t1.2.2.2 (8 : Int32) ((f_Pro_causeBit p2) ||| (if p1 = (2 : Int32) then (33554432 : Int32) else (0 : Int32)))) yl_Sta_keep mw_573 hK hN hP hD hS hA [1, 2] [2, 3, 4] [0, 1, 5, 6] [0, 1, 4, 5, 6, 2, 3] rfl rfl rfl rfl (by decide +kernel) 0 rfl rfl rfl rfl hl.1 rfl (Nat.le_of_ble_eq_true rfl) ⟨Nat.le_of_ble_eq_true rfl, Nat.le_of_ble_eq_true rfl⟩ d_Acc_refuse_43 ⟨Nat.le_of_ble_eq_true rfl, Nat.le_of_ble_eq_true rfl⟩ (fun H locs hP hD hS => ?_)
  have ef : f_Acc_refuse p0 p1 p2 sp ex = ((f_Sta_keep (8 : Int32) ((f_Pro_causeBit p2) ||| (if p1 = (2 : Int32) then (33554432 : Int32) else (0 : Int32))) (f_Sta_keep (9 : Int32) p0 t1.1)), t1.2.1, t1.2.2.1, t1.2.2.2) := by unfold f_Acc_refuse; try dsimp only
  exact k_vret hx hb hr hlocks hK hP hD hS [0, 1, 2, 3, 4, 5, 6] rfl (by rw [ef] <;> rfl) d_Acc_refuse_46
/-! MappedProcessor$Accesses.moves(III)Z -/
theorem d_Acc_moves_0 : decode b_Acc_moves 0 = .ok (.iload_n 1, 1) := by decide +kernel
theorem d_Acc_moves_1 : decode b_Acc_moves 1 = .ok (.invokestatic 29, 3) := by decide +kernel
theorem d_Acc_moves_4 : decode b_Acc_moves 4 = .ok (.istore 4, 2) := by decide +kernel
theorem d_Acc_moves_6 : decode b_Acc_moves 6 = .ok (.iload_n 3, 1) := by decide +kernel
theorem d_Acc_moves_7 : decode b_Acc_moves 7 = .ok (.iload 4, 2) := by decide +kernel
theorem d_Acc_moves_9 : decode b_Acc_moves 9 = .ok (.iconst 1, 1) := by decide +kernel
theorem d_Acc_moves_10 : decode b_Acc_moves 10 = .ok (.isub, 1) := by decide +kernel
theorem d_Acc_moves_11 : decode b_Acc_moves 11 = .ok (.iand, 1) := by decide +kernel
theorem d_Acc_moves_12 : decode b_Acc_moves 12 = .ok (.ifCond .eq 26, 3) := by decide +kernel
theorem d_Acc_moves_15 : decode b_Acc_moves 15 = .ok (.aload_n 0, 1) := by decide +kernel
theorem d_Acc_moves_16 : decode b_Acc_moves 16 = .ok (.getfield 15, 3) := by decide +kernel
theorem d_Acc_moves_19 : decode b_Acc_moves 19 = .ok (.sipush 1536, 3) := by decide +kernel
theorem d_Acc_moves_22 : decode b_Acc_moves 22 = .ok (.iconst 0, 1) := by decide +kernel
theorem d_Acc_moves_23 : decode b_Acc_moves 23 = .ok (.invokevirtual 78, 3) := by decide +kernel
theorem d_Acc_moves_26 : decode b_Acc_moves 26 = .ok (.aload_n 0, 1) := by decide +kernel
theorem d_Acc_moves_27 : decode b_Acc_moves 27 = .ok (.getfield 15, 3) := by decide +kernel
theorem d_Acc_moves_30 : decode b_Acc_moves 30 = .ok (.bipush 9, 2) := by decide +kernel
theorem d_Acc_moves_32 : decode b_Acc_moves 32 = .ok (.iload_n 3, 1) := by decide +kernel
theorem d_Acc_moves_33 : decode b_Acc_moves 33 = .ok (.invokevirtual 81, 3) := by decide +kernel
theorem d_Acc_moves_36 : decode b_Acc_moves 36 = .ok (.iconst 0, 1) := by decide +kernel
theorem d_Acc_moves_37 : decode b_Acc_moves 37 = .ok (.ireturn, 1) := by decide +kernel
theorem d_Acc_moves_38 : decode b_Acc_moves 38 = .ok (.iload_n 1, 1) := by decide +kernel
theorem d_Acc_moves_39 : decode b_Acc_moves 39 = .ok (.invokestatic 75, 3) := by decide +kernel
theorem d_Acc_moves_42 : decode b_Acc_moves 42 = .ok (.ifCond .eq 7, 3) := by decide +kernel
theorem d_Acc_moves_45 : decode b_Acc_moves 45 = .ok (.iconst 2, 1) := by decide +kernel
theorem d_Acc_moves_46 : decode b_Acc_moves 46 = .ok (.goto 4, 3) := by decide +kernel
theorem d_Acc_moves_49 : decode b_Acc_moves 49 = .ok (.iconst 1, 1) := by decide +kernel
theorem d_Acc_moves_50 : decode b_Acc_moves 50 = .ok (.istore 5, 2) := by decide +kernel
theorem d_Acc_moves_52 : decode b_Acc_moves 52 = .ok (.aload_n 0, 1) := by decide +kernel
theorem d_Acc_moves_53 : decode b_Acc_moves 53 = .ok (.getfield 19, 3) := by decide +kernel
theorem d_Acc_moves_56 : decode b_Acc_moves 56 = .ok (.iload_n 3, 1) := by decide +kernel
theorem d_Acc_moves_57 : decode b_Acc_moves 57 = .ok (.iload 5, 2) := by decide +kernel
theorem d_Acc_moves_59 : decode b_Acc_moves 59 = .ok (.invokevirtual 84, 3) := by decide +kernel
theorem d_Acc_moves_62 : decode b_Acc_moves 62 = .ok (.istore 6, 2) := by decide +kernel
theorem d_Acc_moves_64 : decode b_Acc_moves 64 = .ok (.iload 6, 2) := by decide +kernel
theorem d_Acc_moves_66 : decode b_Acc_moves 66 = .ok (.ifCond .ge 14, 3) := by decide +kernel
theorem d_Acc_moves_69 : decode b_Acc_moves 69 = .ok (.aload_n 0, 1) := by decide +kernel
theorem d_Acc_moves_70 : decode b_Acc_moves 70 = .ok (.iload_n 3, 1) := by decide +kernel
theorem d_Acc_moves_71 : decode b_Acc_moves 71 = .ok (.iload 5, 2) := by decide +kernel
theorem d_Acc_moves_73 : decode b_Acc_moves 73 = .ok (.iload 6, 2) := by decide +kernel
theorem d_Acc_moves_75 : decode b_Acc_moves 75 = .ok (.invokevirtual 90, 3) := by decide +kernel
theorem d_Acc_moves_78 : decode b_Acc_moves 78 = .ok (.iconst 0, 1) := by decide +kernel
theorem d_Acc_moves_79 : decode b_Acc_moves 79 = .ok (.ireturn, 1) := by decide +kernel
theorem d_Acc_moves_80 : decode b_Acc_moves 80 = .ok (.aload_n 0, 1) := by decide +kernel
theorem d_Acc_moves_81 : decode b_Acc_moves 81 = .ok (.getfield 19, 3) := by decide +kernel
theorem d_Acc_moves_84 : decode b_Acc_moves 84 = .ok (.iload 5, 2) := by decide +kernel
theorem d_Acc_moves_86 : decode b_Acc_moves 86 = .ok (.invokevirtual 94, 3) := by decide +kernel
theorem d_Acc_moves_89 : decode b_Acc_moves 89 = .ok (.iload 5, 2) := by decide +kernel
theorem d_Acc_moves_91 : decode b_Acc_moves 91 = .ok (.iconst 2, 1) := by decide +kernel
theorem d_Acc_moves_92 : decode b_Acc_moves 92 = .ok (.if_icmp .ne 25, 3) := by decide +kernel
theorem d_Acc_moves_95 : decode b_Acc_moves 95 = .ok (.aload_n 0, 1) := by decide +kernel
theorem d_Acc_moves_96 : decode b_Acc_moves 96 = .ok (.getfield 9, 3) := by decide +kernel
theorem d_Acc_moves_99 : decode b_Acc_moves 99 = .ok (.iload 6, 2) := by decide +kernel
theorem d_Acc_moves_101 : decode b_Acc_moves 101 = .ok (.iload 4, 2) := by decide +kernel
theorem d_Acc_moves_103 : decode b_Acc_moves 103 = .ok (.aload_n 0, 1) := by decide +kernel
theorem d_Acc_moves_104 : decode b_Acc_moves 104 = .ok (.getfield 15, 3) := by decide +kernel
theorem d_Acc_moves_107 : decode b_Acc_moves 107 = .ok (.iload_n 2, 1) := by decide +kernel
theorem d_Acc_moves_108 : decode b_Acc_moves 108 = .ok (.invokevirtual 72, 3) := by decide +kernel
theorem d_Acc_moves_111 : decode b_Acc_moves 111 = .ok (.invokevirtual 98, 3) := by decide +kernel
theorem d_Acc_moves_114 : decode b_Acc_moves 114 = .ok (.goto 38, 3) := by decide +kernel
theorem d_Acc_moves_117 : decode b_Acc_moves 117 = .ok (.aload_n 0, 1) := by decide +kernel
theorem d_Acc_moves_118 : decode b_Acc_moves 118 = .ok (.getfield 9, 3) := by decide +kernel
theorem d_Acc_moves_121 : decode b_Acc_moves 121 = .ok (.iload 6, 2) := by decide +kernel
theorem d_Acc_moves_123 : decode b_Acc_moves 123 = .ok (.iload 4, 2) := by decide +kernel
theorem d_Acc_moves_125 : decode b_Acc_moves 125 = .ok (.invokevirtual 103, 3) := by decide +kernel
theorem d_Acc_moves_128 : decode b_Acc_moves 128 = .ok (.istore 7, 2) := by decide +kernel
theorem d_Acc_moves_130 : decode b_Acc_moves 130 = .ok (.aload_n 0, 1) := by decide +kernel
theorem d_Acc_moves_131 : decode b_Acc_moves 131 = .ok (.getfield 15, 3) := by decide +kernel
theorem d_Acc_moves_134 : decode b_Acc_moves 134 = .ok (.iload_n 2, 1) := by decide +kernel
theorem d_Acc_moves_135 : decode b_Acc_moves 135 = .ok (.iload_n 1, 1) := by decide +kernel
theorem d_Acc_moves_136 : decode b_Acc_moves 136 = .ok (.bipush 42, 2) := by decide +kernel
theorem d_Acc_moves_138 : decode b_Acc_moves 138 = .ok (.if_icmp .ne 9, 3) := by decide +kernel
theorem d_Acc_moves_141 : decode b_Acc_moves 141 = .ok (.iload 7, 2) := by decide +kernel
theorem d_Acc_moves_143 : decode b_Acc_moves 143 = .ok (.i2s, 1) := by decide +kernel
theorem d_Acc_moves_144 : decode b_Acc_moves 144 = .ok (.goto 5, 3) := by decide +kernel
theorem d_Acc_moves_147 : decode b_Acc_moves 147 = .ok (.iload 7, 2) := by decide +kernel
theorem d_Acc_moves_149 : decode b_Acc_moves 149 = .ok (.invokevirtual 59, 3) := by decide +kernel
theorem d_Acc_moves_152 : decode b_Acc_moves 152 = .ok (.iconst 1, 1) := by decide +kernel
theorem d_Acc_moves_153 : decode b_Acc_moves 153 = .ok (.ireturn, 1) := by decide +kernel
def f_Acc_moves (p0 : Int32) (p1 : Int32) (p2 : Int32) (w : Nat → Int32) (g : Nat → Int32) (sp : Nat → Int32) (nx : Int32) (lt : Int32) (ex : Int32) (en : Int32) : Int32 × (Nat → Int32) × (Nat → Int32) × (Nat → Int32) × Int32 × Int32 × Int32 × Int32 :=
  if (p2 &&& ((f_Acc_sizeOf p0) - (1 : Int32))) = (0 : Int32) then
    let t7 := (f_Map_locate p2 (if (f_Acc_stores p0) = (0 : Int32) then (1 : Int32) else (2 : Int32)) w sp)
    if (0 : Int32) ≤ t7.1 then
      if (if (f_Acc_stores p0) = (0 : Int32) then (1 : Int32) else (2 : Int32)) = (2 : Int32) then
        ((1 : Int32), (f_Mem_keepPart t7.1 (f_Acc_sizeOf p0) (f_Sta_register p1 g) (f_Map_mark (if (f_Acc_stores p0) = (0 : Int32) then (1 : Int32) else (2 : Int32)) w t7.2)), g, sp, nx, lt, ex, t7.2)
      else
        ((1 : Int32), (f_Map_mark (if (f_Acc_stores p0) = (0 : Int32) then (1 : Int32) else (2 : Int32)) w t7.2), (f_Sta_keepRegister p1 (if p0 = (42 : Int32) then ((f_Mem_part t7.1 (f_Acc_sizeOf p0) (f_Map_mark (if (f_Acc_stores p0) = (0 : Int32) then (1 : Int32) else (2 : Int32)) w t7.2)).toInt16.toInt32) else (f_Mem_part t7.1 (f_Acc_sizeOf p0) (f_Map_mark (if (f_Acc_stores p0) = (0 : Int32) then (1 : Int32) else (2 : Int32)) w t7.2))) g), sp, nx, lt, ex, t7.2)
    else
      let t18 := (f_Acc_refuse p2 (if (f_Acc_stores p0) = (0 : Int32) then (1 : Int32) else (2 : Int32)) t7.1 sp ex)
      ((0 : Int32), w, g, t18.1, t18.2.1, t18.2.2.1, t18.2.2.2, t7.2)
  else
    let t19 := (f_Sta_raise (1536 : Int32) (0 : Int32) sp ex)
    ((0 : Int32), w, g, (f_Sta_keep (9 : Int32) p2 t19.1), t19.2.1, t19.2.2.1, t19.2.2.2, en)
set_option maxHeartbeats 4000000 in
set_option maxRecDepth 100000 in
theorem ib_Acc_moves (p0 : Int32) (p1 : Int32) (p2 : Int32) (w : Nat → Int32) (g : Nat → Int32) (sp : Nat → Int32) (nx : Int32) (lt : Int32) (ex : Int32) (en : Int32) : isB (f_Acc_moves p0 p1 p2 w g sp nx lt ex en).1 := by
  unfold f_Acc_moves
  try dsimp only
  repeat' (first | refine ib_ite ?_ ?_ | refine ib_ite0 ?_ ?_ | with_reducible exact ib0 | with_reducible exact ib1 | with_reducible exact ib_Acc_stores _ | (dsimp only; first | exact ib0 | exact ib1))
theorem nb_Acc_moves (p0 : Int32) (p1 : Int32) (p2 : Int32) (w : Nat → Int32) (g : Nat → Int32) (sp : Nat → Int32) (nx : Int32) (lt : Int32) (ex : Int32) (en : Int32) : narrow .boolean (.int (f_Acc_moves p0 p1 p2 w g sp nx lt ex en).1) = .int (f_Acc_moves p0 p1 p2 w g sp nx lt ex en).1 := nb_of (ib_Acc_moves p0 p1 p2 w g sp nx lt ex en)
set_option maxHeartbeats 4000000 in
set_option maxRecDepth 100000 in
theorem c_Acc_moves (l : Launch) (D : va_G) (aM aW aS aG aX aQ aZ : Nat) (cW cG cX : ClassId) (w : Nat → Int32) (g : Nat → Int32) (sp : Nat → Int32) (nx : Int32) (lt : Int32) (sm : Int32) (ex : Int32) (en : Int32) (p0 : Int32) (p1 : Int32) (p2 : Int32) : kMi l y_Acc_moves b_Acc_moves 8 (some .boolean) 3 75 D kCl [(cW, .int), (cG, .int), (cX, .int)] [.ref aZ, .int p0, .int p1, .int p2] [(aM, .inr (8, [.ref aW])), (aW, .inl (cW, 16384, .inl w)), (aS, .inr (9, [.ref aG, .ref aX, .int nx, .int lt, .int sm, .int ex])), (aG, .inl (cG, 32, .inl g)), (aX, .inl (cX, 64, .inl sp)), (aQ, .inr (7, [.ref aM, .ref aS, .int en])), (aZ, .inr (0, [.ref aM, .ref aS, .ref aQ]))] (f_Acc_moves p0 p1 p2 w g sp nx lt ex en).1 [(aM, .inr (8, [.ref aW])), (aW, .inl (cW, 16384, .inl (f_Acc_moves p0 p1 p2 w g sp nx lt ex en).2.1)), (aS, .inr (9, [.ref aG, .ref aX, .int (f_Acc_moves p0 p1 p2 w g sp nx lt ex en).2.2.2.2.1, .int (f_Acc_moves p0 p1 p2 w g sp nx lt ex en).2.2.2.2.2.1, .int sm, .int (f_Acc_moves p0 p1 p2 w g sp nx lt ex en).2.2.2.2.2.2.1])), (aG, .inl (cG, 32, .inl (f_Acc_moves p0 p1 p2 w g sp nx lt ex en).2.2.1)), (aX, .inl (cX, 64, .inl (f_Acc_moves p0 p1 p2 w g sp nx lt ex en).2.2.2.1)), (aQ, .inr (7, [.ref aM, .ref aS, .int (f_Acc_moves p0 p1 p2 w g sp nx lt ex en).2.2.2.2.2.2.2])), (aZ, .inr (0, [.ref aM, .ref aS, .ref aQ]))] := by
  refine k_entry (Qc := fun A => kQi D kCl [(cW, .int), (cG, .int), (cX, .int)] (f_Acc_moves p0 p1 p2 w g sp nx lt ex en).1 [(aM, .inr (8, [.ref aW])), (aW, .inl (cW, 16384, .inl (f_Acc_moves p0 p1 p2 w g sp nx lt ex en).2.1)), (aS, .inr (9, [.ref aG, .ref aX, .int (f_Acc_moves p0 p1 p2 w g sp nx lt ex en).2.2.2.2.1, .int (f_Acc_moves p0 p1 p2 w g sp nx lt ex en).2.2.2.2.2.1, .int sm, .int (f_Acc_moves p0 p1 p2 w g sp nx lt ex en).2.2.2.2.2.2.1])), (aG, .inl (cG, 32, .inl (f_Acc_moves p0 p1 p2 w g sp nx lt ex en).2.2.1)), (aX, .inl (cX, 64, .inl (f_Acc_moves p0 p1 p2 w g sp nx lt ex en).2.2.2.1)), (aQ, .inr (7, [.ref aM, .ref aS, .int (f_Acc_moves p0 p1 p2 w g sp nx lt ex en).2.2.2.2.2.2.2])), (aZ, .inr (0, [.ref aM, .ref aS, .ref aQ]))] A) (lv := [(0, .ref aZ), (1, .int p0), (2, .int p1), (3, .int p2)]) (by decide) (Nat.le_of_ble_eq_true rfl) rfl ?_
  intro p e s m below meth c A ls hx hb hr hml hB hown hlocks hin hA hK hN hP hD hS hl
  have hown : s.vm.findClass "MappedProcessor$Accesses" = some m.cls := hown
  refine lv_iload_n hx hb d_Acc_moves_0 rfl (lv_at hl 1 rfl) ?_
  refine k_cSi (As := [.int p0]) (rest := []) (wr := [(aM, .inr (8, [.ref aW])), (aW, .inl (cW, 16384, .inl w)), (aS, .inr (9, [.ref aG, .ref aX, .int nx, .int lt, .int sm, .int ex])), (aG, .inl (cG, 32, .inl g)), (aX, .inl (cX, 64, .inl sp)), (aQ, .inr (7, [.ref aM, .ref aS, .int en])), (aZ, .inr (0, [.ref aM, .ref aS, .ref aQ]))]) (wj := [(aM, .inr (8, [.ref aW])), (aW, .inl (cW, 16384, .inl w)), (aS, .inr (9, [.ref aG, .ref aX, .int nx, .int lt, .int sm, .int ex])), (aG, .inl (cG, 32, .inl g)), (aX, .inl (cX, 64, .inl sp)), (aQ, .inr (7, [.ref aM, .ref aS, .int en])), (aZ, .inr (0, [.ref aM, .ref aS, .ref aQ]))]) ⟨hx, hb, hml, hown, hB⟩ (c_Acc_sizeOf l D p0) yl_Acc_sizeOf mw_569 hK hN hP hD hS hA [] [] [0, 1, 2, 3, 4, 5, 6] [0, 1, 2, 3, 4, 5, 6] rfl rfl rfl rfl (by decide +kernel) rfl hl.1 rfl (Nat.le_of_ble_eq_true rfl) ⟨Nat.le_of_ble_eq_true rfl, Nat.le_of_ble_eq_true rfl⟩ d_Acc_moves_1 ⟨Nat.le_of_ble_eq_true rfl, Nat.le_of_ble_eq_true rfl⟩ (fun H locs hP hD hS => ?_)
  refine lv_istore (lv' := [(4, .int (f_Acc_sizeOf p0)), (0, .ref aZ), (1, .int p0), (2, .int p1), (3, .int p2)]) hx hb d_Acc_moves_4 hl (by decide) rfl (fun ls hl => ?_)
  refine lv_iload_n hx hb d_Acc_moves_6 rfl (lv_at hl 4 rfl) ?_
  refine lv_iload hx hb d_Acc_moves_7 (lv_at hl 0 rfl) ?_
  refine lv_iconst (v := (1 : Int32)) hx hb d_Acc_moves_9 (by decide) ?_
  refine lv_isub hx hb d_Acc_moves_10 ?_
  refine lv_iand hx hb d_Acc_moves_11 ?_
  refine lv_if_eq (tgt := 38) hx hb d_Acc_moves_12 (by decide) (fun (h1 : (p2 &&& ((f_Acc_sizeOf p0) - (1 : Int32))) = (0 : Int32)) => ?_) (fun (h1 : ¬ (p2 &&& ((f_Acc_sizeOf p0) - (1 : Int32))) = (0 : Int32)) => ?_)
  · refine lv_iload_n hx hb d_Acc_moves_38 rfl (lv_at hl 2 rfl) ?_
    refine k_cSi (As := [.int p0]) (rest := []) (wr := [(aM, .inr (8, [.ref aW])), (aW, .inl (cW, 16384, .inl w)), (aS, .inr (9, [.ref aG, .ref aX, .int nx, .int lt, .int sm, .int ex])), (aG, .inl (cG, 32, .inl g)), (aX, .inl (cX, 64, .inl sp)), (aQ, .inr (7, [.ref aM, .ref aS, .int en])), (aZ, .inr (0, [.ref aM, .ref aS, .ref aQ]))]) (wj := [(aM, .inr (8, [.ref aW])), (aW, .inl (cW, 16384, .inl w)), (aS, .inr (9, [.ref aG, .ref aX, .int nx, .int lt, .int sm, .int ex])), (aG, .inl (cG, 32, .inl g)), (aX, .inl (cX, 64, .inl sp)), (aQ, .inr (7, [.ref aM, .ref aS, .int en])), (aZ, .inr (0, [.ref aM, .ref aS, .ref aQ]))]) ⟨hx, hb, hml, hown, hB⟩ (c_Acc_stores l D p0) yl_Acc_stores mw_574 hK hN hP hD hS hA [] [] [0, 1, 2, 3, 4, 5, 6] [0, 1, 2, 3, 4, 5, 6] rfl rfl rfl rfl (by decide +kernel) rfl hl.1 rfl (Nat.le_of_ble_eq_true rfl) ⟨Nat.le_of_ble_eq_true rfl, Nat.le_of_ble_eq_true rfl⟩ d_Acc_moves_39 ⟨Nat.le_of_ble_eq_true rfl, Nat.le_of_ble_eq_true rfl⟩ (fun H locs hP hD hS => ?_)
    refine k_join2 (c0 := (f_Acc_stores p0) = (0 : Int32)) (x1 := (1 : Int32)) (x2 := (2 : Int32)) (rest := []) 50 ?_ (fun k3 k4 => ?_)
    rotate_left
    · refine lv_if_eq (tgt := 49) hx hb d_Acc_moves_42 (by decide) (fun (h2 : (f_Acc_stores p0) = (0 : Int32)) => ?_) (fun (h2 : ¬ (f_Acc_stores p0) = (0 : Int32)) => ?_)
      · refine lv_iconst (v := (1 : Int32)) hx hb d_Acc_moves_49 (by decide) ?_
        exact k3 h2
      · refine lv_iconst (v := (2 : Int32)) hx hb d_Acc_moves_45 (by decide) ?_
        refine lv_goto (tgt := 50) hx hb d_Acc_moves_46 (by decide) ?_
        exact k4 h2
    refine lv_istore (lv' := [(5, .int (if (f_Acc_stores p0) = (0 : Int32) then (1 : Int32) else (2 : Int32))), (4, .int (f_Acc_sizeOf p0)), (0, .ref aZ), (1, .int p0), (2, .int p1), (3, .int p2)]) hx hb d_Acc_moves_50 hl (by decide) rfl (fun ls hl => ?_)
    refine lv_aload_n hx hb d_Acc_moves_52 rfl (lv_at hl 2 rfl) ?_
    refine va_get (D := D) (ci := 0) (v := .ref aQ) (C := "MappedProcessor$Accesses") (T := T_Acc) (N := 3) hx hb hB iw_Acc hown hK hP 6 rfl rfl 2 (by decide) (hB _ mw_201) (fun _ h9 => h9) rfl d_Acc_moves_53 ?_
    refine lv_iload_n hx hb d_Acc_moves_56 rfl (lv_at hl 5 rfl) ?_
    refine lv_iload hx hb d_Acc_moves_57 (lv_at hl 0 rfl) ?_
    let t7 := (f_Map_locate p2 (if (f_Acc_stores p0) = (0 : Int32) then (1 : Int32) else (2 : Int32)) w sp)
    refine k_cVi (As := [.int p2, .int (if (f_Acc_stores p0) = (0 : Int32) then (1 : Int32) else (2 : Int32))]) (rest := []) (wr := [(aZ, .inr (0, [.ref aM, .ref aS, .ref aQ]))]) (wj := [(aM, .inr (8, [.ref aW])), (aW, .inl (cW, 16384, .inl w)), (aS, .inr (9, [.ref aG, .ref aX, .int nx, .int lt, .int sm, .int ex])), (aG, .inl (cG, 32, .inl g)), (aX, .inl (cX, 64, .inl sp)), (aQ, .inr (7, [.ref aM, .ref aS, .int t7.2])), (aZ, .inr (0, [.ref aM, .ref aS, .ref aQ]))]) ⟨hx, hb, hml, hown, hB⟩ (c_Map_locate l D aM aW aS aG aX aQ cW cG cX w g sp nx lt sm ex en p2 (if (f_Acc_stores p0) = (0 : Int32) then (1 : Int32) else (2 : Int32))) yl_Map_locate mw_577 hK hN hP hD hS hA [0, 1, 2] [0, 1, 2, 3, 4, 5] [6] [1, 2, 3, 4, 5, 6, 0] rfl rfl rfl rfl (by decide +kernel) 5 rfl rfl rfl rfl hl.1 rfl (Nat.le_of_ble_eq_true rfl) ⟨Nat.le_of_ble_eq_true rfl, Nat.le_of_ble_eq_true rfl⟩ d_Acc_moves_59 ⟨Nat.le_of_ble_eq_true rfl, Nat.le_of_ble_eq_true rfl⟩ (fun H locs hP hD hS => ?_)
    refine lv_istore (lv' := [(6, .int t7.1), (5, .int (if (f_Acc_stores p0) = (0 : Int32) then (1 : Int32) else (2 : Int32))), (4, .int (f_Acc_sizeOf p0)), (0, .ref aZ), (1, .int p0), (2, .int p1), (3, .int p2)]) hx hb d_Acc_moves_62 hl (by decide) rfl (fun ls hl => ?_)
    refine lv_iload hx hb d_Acc_moves_64 (lv_at hl 0 rfl) ?_
    refine lv_if_ge (tgt := 80) hx hb d_Acc_moves_66 (by decide) (fun (h8 : (0 : Int32) ≤ t7.1) => ?_) (fun (h8 : ¬ (0 : Int32) ≤ t7.1) => ?_)
    · refine lv_aload_n hx hb d_Acc_moves_80 rfl (lv_at hl 3 rfl) ?_
      refine va_get (D := D) (ci := 0) (v := .ref aQ) (C := "MappedProcessor$Accesses") (T := T_Acc) (N := 3) hx hb hB iw_Acc hown hK hP 6 rfl rfl 2 (by decide) (hB _ mw_201) (fun _ h9 => h9) rfl d_Acc_moves_81 ?_
      refine lv_iload hx hb d_Acc_moves_84 (lv_at hl 1 rfl) ?_
      refine k_cVv (As := [.int (if (f_Acc_stores p0) = (0 : Int32) then (1 : Int32) else (2 : Int32))]) (rest := []) (wr := [(aZ, .inr (0, [.ref aM, .ref aS, .ref aQ]))]) (wj := [(aM, .inr (8, [.ref aW])), (aW, .inl (cW, 16384, .inl (f_Map_mark (if (f_Acc_stores p0) = (0 : Int32) then (1 : Int32) else (2 : Int32)) w t7.2))), (aS, .inr (9, [.ref aG, .ref aX, .int nx, .int lt, .int sm, .int ex])), (aG, .inl (cG, 32, .inl g)), (aX, .inl (cX, 64, .inl sp)), (aQ, .inr (7, [.ref aM, .ref aS, .int t7.2])), (aZ, .inr (0, [.ref aM, .ref aS, .ref aQ]))]) ⟨hx, hb, hml, hown, hB⟩ (c_Map_mark l D aM aW aS aG aX aQ cW cG cX w g sp nx lt sm ex t7.2 (if (f_Acc_stores p0) = (0 : Int32) then (1 : Int32) else (2 : Int32))) yl_Map_mark mw_584 hK hN hP hD hS hA [0, 1, 2] [0, 1, 2, 3, 4, 5] [6] [1, 2, 3, 4, 5, 6, 0] rfl rfl rfl rfl (by decide +kernel) 5 rfl rfl rfl rfl hl.1 rfl (Nat.le_of_ble_eq_true rfl) ⟨Nat.le_of_ble_eq_true rfl, Nat.le_of_ble_eq_true rfl⟩ d_Acc_moves_86 ⟨Nat.le_of_ble_eq_true rfl, Nat.le_of_ble_eq_true rfl⟩ (fun H locs hP hD hS => ?_)
      refine lv_iload hx hb d_Acc_moves_89 (lv_at hl 1 rfl) ?_
      refine lv_iconst (v := (2 : Int32)) hx hb d_Acc_moves_91 (by decide) ?_
      refine lv_icmp_ne (tgt := 117) hx hb d_Acc_moves_92 (by decide) (fun (h12 : ¬ (if (f_Acc_stores p0) = (0 : Int32) then (1 : Int32) else (2 : Int32)) = (2 : Int32)) => ?_) (fun (h12 : (if (f_Acc_stores p0) = (0 : Int32) then (1 : Int32) else (2 : Int32)) = (2 : Int32)) => ?_)
      · refine lv_aload_n hx hb d_Acc_moves_117 rfl (lv_at hl 3 rfl) ?_
        refine va_get (D := D) (ci := 0) (v := .ref aM) (C := "MappedProcessor$Accesses") (T := T_Acc) (N := 3) hx hb hB iw_Acc hown hK hP 6 rfl rfl 0 (by decide) (hB _ mw_199) (fun _ h9 => h9) rfl d_Acc_moves_118 ?_
        refine lv_iload hx hb d_Acc_moves_121 (lv_at hl 0 rfl) ?_
        refine lv_iload hx hb d_Acc_moves_123 (lv_at hl 2 rfl) ?_
        refine k_cVi (As := [.int t7.1, .int (f_Acc_sizeOf p0)]) (rest := []) (wr := [(aS, .inr (9, [.ref aG, .ref aX, .int nx, .int lt, .int sm, .int ex])), (aG, .inl (cG, 32, .inl g)), (aX, .inl (cX, 64, .inl sp)), (aQ, .inr (7, [.ref aM, .ref aS, .int t7.2])), (aZ, .inr (0, [.ref aM, .ref aS, .ref aQ]))]) (wj := [(aM, .inr (8, [.ref aW])), (aW, .inl (cW, 16384, .inl (f_Map_mark (if (f_Acc_stores p0) = (0 : Int32) then (1 : Int32) else (2 : Int32)) w t7.2))), (aS, .inr (9, [.ref aG, .ref aX, .int nx, .int lt, .int sm, .int ex])), (aG, .inl (cG, 32, .inl g)), (aX, .inl (cX, 64, .inl sp)), (aQ, .inr (7, [.ref aM, .ref aS, .int t7.2])), (aZ, .inr (0, [.ref aM, .ref aS, .ref aQ]))]) ⟨hx, hb, hml, hown, hB⟩ (c_Mem_part l D aM aW cW (f_Map_mark (if (f_Acc_stores p0) = (0 : Int32) then (1 : Int32) else (2 : Int32)) w t7.2) t7.1 (f_Acc_sizeOf p0)) yl_Mem_part mw_597 hK hN hP hD hS hA [0] [0, 1] [2, 3, 4, 5, 6] [5, 6, 0, 1, 2, 3, 4] rfl rfl rfl rfl (by decide +kernel) 0 rfl rfl rfl rfl hl.1 rfl (Nat.le_of_ble_eq_true rfl) ⟨Nat.le_of_ble_eq_true rfl, Nat.le_of_ble_eq_true rfl⟩ d_Acc_moves_125 ⟨Nat.le_of_ble_eq_true rfl, Nat.le_of_ble_eq_true rfl⟩ (fun H locs hP hD hS => ?_)
        refine lv_istore (lv' := [(7, .int (f_Mem_part t7.1 (f_Acc_sizeOf p0) (f_Map_mark (if (f_Acc_stores p0) = (0 : Int32) then (1 : Int32) else (2 : Int32)) w t7.2))), (6, .int t7.1), (5, .int (if (f_Acc_stores p0) = (0 : Int32) then (1 : Int32) else (2 : Int32))), (4, .int (f_Acc_sizeOf p0)), (0, .ref aZ), (1, .int p0), (2, .int p1), (3, .int p2)]) hx hb d_Acc_moves_128 hl (by decide) rfl (fun ls hl => ?_)
        refine lv_aload_n hx hb d_Acc_moves_130 rfl (lv_at hl 4 rfl) ?_
        refine va_get (D := D) (ci := 0) (v := .ref aS) (C := "MappedProcessor$Accesses") (T := T_Acc) (N := 3) hx hb hB iw_Acc hown hK hP 6 rfl rfl 1 (by decide) (hB _ mw_200) (fun _ h9 => h9) rfl d_Acc_moves_131 ?_
        refine lv_iload_n hx hb d_Acc_moves_134 rfl (lv_at hl 6 rfl) ?_
        refine lv_iload_n hx hb d_Acc_moves_135 rfl (lv_at hl 5 rfl) ?_
        refine lv_bipush (v := (42 : Int32)) hx hb d_Acc_moves_136 (by decide) ?_
        refine k_join2 (c0 := p0 = (42 : Int32)) (x1 := ((f_Mem_part t7.1 (f_Acc_sizeOf p0) (f_Map_mark (if (f_Acc_stores p0) = (0 : Int32) then (1 : Int32) else (2 : Int32)) w t7.2)).toInt16.toInt32)) (x2 := (f_Mem_part t7.1 (f_Acc_sizeOf p0) (f_Map_mark (if (f_Acc_stores p0) = (0 : Int32) then (1 : Int32) else (2 : Int32)) w t7.2))) (rest := [.int p1, .ref aS]) 149 ?_ (fun k14 k15 => ?_)
        rotate_left
        · refine lv_icmp_ne (tgt := 147) hx hb d_Acc_moves_138 (by decide) (fun (h13 : ¬ p0 = (42 : Int32)) => ?_) (fun (h13 : p0 = (42 : Int32)) => ?_)
          · refine lv_iload hx hb d_Acc_moves_147 (lv_at hl 0 rfl) ?_
            exact k15 h13
          · refine lv_iload hx hb d_Acc_moves_141 (lv_at hl 0 rfl) ?_
            refine lv_i2s (v := ((f_Mem_part t7.1 (f_Acc_sizeOf p0) (f_Map_mark (if (f_Acc_stores p0) = (0 : Int32) then (1 : Int32) else (2 : Int32)) w t7.2)).toInt16.toInt32)) hx hb d_Acc_moves_143 rfl ?_
            refine lv_goto (tgt := 149) hx hb d_Acc_moves_144 (by decide) ?_
            exact k14 h13
        refine k_cVv (As := [.int p1, .int (if p0 = (42 : Int32) then ((f_Mem_part t7.1 (f_Acc_sizeOf p0) (f_Map_mark (if (f_Acc_stores p0) = (0 : Int32) then (1 : Int32) else (2 : Int32)) w t7.2)).toInt16.toInt32) else (f_Mem_part t7.1 (f_Acc_sizeOf p0) (f_Map_mark (if (f_Acc_stores p0) = (0 : Int32) then (1 : Int32) else (2 : Int32)) w t7.2)))]) (rest := []) (wr := [(aM, .inr (8, [.ref aW])), (aW, .inl (cW, 16384, .inl (f_Map_mark (if (f_Acc_stores p0) = (0 : Int32) then (1 : Int32) else (2 : Int32)) w t7.2))), (aQ, .inr (7, [.ref aM, .ref aS, .int t7.2])), (aZ, .inr (0, [.ref aM, .ref aS, .ref aQ]))]) (wj := [(aM, .inr (8, [.ref aW])), (aW, .inl (cW, 16384, .inl (f_Map_mark (if (f_Acc_stores p0) = (0 : Int32) then (1 : Int32) else (2 : Int32)) w t7.2))), (aS, .inr (9, [.ref aG, .ref aX, .int nx, .int lt, .int sm, .int ex])), (aG, .inl (cG, 32, .inl (f_Sta_keepRegister p1 (if p0 = (42 : Int32) then ((f_Mem_part t7.1 (f_Acc_sizeOf p0) (f_Map_mark (if (f_Acc_stores p0) = (0 : Int32) then (1 : Int32) else (2 : Int32)) w t7.2)).toInt16.toInt32) else (f_Mem_part t7.1 (f_Acc_sizeOf p0) (f_Map_mark (if (f_Acc_stores p0) = (0 : Int32) then (1 : Int32) else (2 : Int32)) w t7.2))) g))), (aX, .inl (cX, 64, .inl sp)), (aQ, .inr (7, [.ref aM, .ref aS, .int t7.2])), (aZ, .inr (0, [.ref aM, .ref aS, .ref aQ]))]) ⟨hx, hb, hml, hown, hB⟩ (c_Sta_keepRegister l D aS aG aX cG cX g sp nx lt sm ex p1 (if p0 = (42 : Int32) then ((f_Mem_part t7.1 (f_Acc_sizeOf p0) (f_Map_mark (if (f_Acc_stores p0) = (0 : Int32) then (1 : Int32) else (2 : Int32)) w t7.2)).toInt16.toInt32) else (f_Mem_part t7.1 (f_Acc_sizeOf p0) (f_Map_mark (if (f_Acc_stores p0) = (0 : Int32) then (1 : Int32) else (2 : Int32)) w t7.2)))) yl_Sta_keepRegister mw_601 hK hN hP hD hS hA [1, 2] [2, 3, 4] [0, 1, 5, 6] [0, 1, 4, 5, 6, 2, 3] rfl rfl rfl rfl (by decide +kernel) 0 rfl rfl rfl rfl hl.1 rfl (Nat.le_of_ble_eq_true rfl) ⟨Nat.le_of_ble_eq_true rfl, Nat.le_of_ble_eq_true rfl⟩ d_Acc_moves_149 ⟨Nat.le_of_ble_eq_true rfl, Nat.le_of_ble_eq_true rfl⟩ (fun H locs hP hD hS => ?_)
        refine lv_iconst (v := (1 : Int32)) hx hb d_Acc_moves_152 (by decide) ?_
        have ef : f_Acc_moves p0 p1 p2 w g sp nx lt ex en = ((1 : Int32), (f_Map_mark (if (f_Acc_stores p0) = (0 : Int32) then (1 : Int32) else (2 : Int32)) w t7.2), (f_Sta_keepRegister p1 (if p0 = (42 : Int32) then ((f_Mem_part t7.1 (f_Acc_sizeOf p0) (f_Map_mark (if (f_Acc_stores p0) = (0 : Int32) then (1 : Int32) else (2 : Int32)) w t7.2)).toInt16.toInt32) else (f_Mem_part t7.1 (f_Acc_sizeOf p0) (f_Map_mark (if (f_Acc_stores p0) = (0 : Int32) then (1 : Int32) else (2 : Int32)) w t7.2))) g), sp, nx, lt, ex, t7.2) := by unfold f_Acc_moves; try dsimp only; rw [if_pos h1, if_pos h8, if_neg h12]
        exact k_zret hx hb hr hlocks hK hP hD hS [0, 1, 2, 3, 4, 5, 6] rfl (by rw [ef] <;> rfl) (by rw [ef] <;> rfl) nb1 d_Acc_moves_153
      · refine lv_aload_n hx hb d_Acc_moves_95 rfl (lv_at hl 3 rfl) ?_
        refine va_get (D := D) (ci := 0) (v := .ref aM) (C := "MappedProcessor$Accesses") (T := T_Acc) (N := 3) hx hb hB iw_Acc hown hK hP 6 rfl rfl 0 (by decide) (hB _ mw_199) (fun _ h9 => h9) rfl d_Acc_moves_96 ?_
        refine lv_iload hx hb d_Acc_moves_99 (lv_at hl 0 rfl) ?_
        refine lv_iload hx hb d_Acc_moves_101 (lv_at hl 2 rfl) ?_
        refine lv_aload_n hx hb d_Acc_moves_103 rfl (lv_at hl 3 rfl) ?_
        refine va_get (D := D) (ci := 0) (v := .ref aS) (C := "MappedProcessor$Accesses") (T := T_Acc) (N := 3) hx hb hB iw_Acc hown hK hP 6 rfl rfl 1 (by decide) (hB _ mw_200) (fun _ h9 => h9) rfl d_Acc_moves_104 ?_
        refine lv_iload_n hx hb d_Acc_moves_107 rfl (lv_at hl 5 rfl) ?_
        refine k_cVi (As := [.int p1]) (rest := [.int (f_Acc_sizeOf p0), .int t7.1, .ref aM]) (wr := [(aM, .inr (8, [.ref aW])), (aW, .inl (cW, 16384, .inl (f_Map_mark (if (f_Acc_stores p0) = (0 : Int32) then (1 : Int32) else (2 : Int32)) w t7.2))), (aQ, .inr (7, [.ref aM, .ref aS, .int t7.2])), (aZ, .inr (0, [.ref aM, .ref aS, .ref aQ]))]) (wj := [(aM, .inr (8, [.ref aW])), (aW, .inl (cW, 16384, .inl (f_Map_mark (if (f_Acc_stores p0) = (0 : Int32) then (1 : Int32) else (2 : Int32)) w t7.2))), (aS, .inr (9, [.ref aG, .ref aX, .int nx, .int lt, .int sm, .int ex])), (aG, .inl (cG, 32, .inl g)), (aX, .inl (cX, 64, .inl sp)), (aQ, .inr (7, [.ref aM, .ref aS, .int t7.2])), (aZ, .inr (0, [.ref aM, .ref aS, .ref aQ]))]) ⟨hx, hb, hml, hown, hB⟩ (c_Sta_register l D aS aG aX cG cX g sp nx lt sm ex p1) yl_Sta_register mw_564 hK hN hP hD hS hA [1, 2] [2, 3, 4] [0, 1, 5, 6] [0, 1, 4, 5, 6, 2, 3] rfl rfl rfl rfl (by decide +kernel) 0 rfl rfl rfl rfl hl.1 rfl (Nat.le_of_ble_eq_true rfl) ⟨Nat.le_of_ble_eq_true rfl, Nat.le_of_ble_eq_true rfl⟩ d_Acc_moves_108 ⟨Nat.le_of_ble_eq_true rfl, Nat.le_of_ble_eq_true rfl⟩ (fun H locs hP hD hS => ?_)
        refine k_cVv (As := [.int t7.1, .int (f_Acc_sizeOf p0), .int (f_Sta_register p1 g)]) (rest := []) (wr := [(aS, .inr (9, [.ref aG, .ref aX, .int nx, .int lt, .int sm, .int ex])), (aG, .inl (cG, 32, .inl g)), (aX, .inl (cX, 64, .inl sp)), (aQ, .inr (7, [.ref aM, .ref aS, .int t7.2])), (aZ, .inr (0, [.ref aM, .ref aS, .ref aQ]))]) (wj := [(aM, .inr (8, [.ref aW])), (aW, .inl (cW, 16384, .inl (f_Mem_keepPart t7.1 (f_Acc_sizeOf p0) (f_Sta_register p1 g) (f_Map_mark (if (f_Acc_stores p0) = (0 : Int32) then (1 : Int32) else (2 : Int32)) w t7.2)))), (aS, .inr (9, [.ref aG, .ref aX, .int nx, .int lt, .int sm, .int ex])), (aG, .inl (cG, 32, .inl g)), (aX, .inl (cX, 64, .inl sp)), (aQ, .inr (7, [.ref aM, .ref aS, .int t7.2])), (aZ, .inr (0, [.ref aM, .ref aS, .ref aQ]))]) ⟨hx, hb, hml, hown, hB⟩ (c_Mem_keepPart l D aM aW cW (f_Map_mark (if (f_Acc_stores p0) = (0 : Int32) then (1 : Int32) else (2 : Int32)) w t7.2) t7.1 (f_Acc_sizeOf p0) (f_Sta_register p1 g)) yl_Mem_keepPart mw_585 hK hN hP hD hS hA [0] [0, 1] [2, 3, 4, 5, 6] [5, 6, 0, 1, 2, 3, 4] rfl rfl rfl rfl (by decide +kernel) 0 rfl rfl rfl rfl hl.1 rfl (Nat.le_of_ble_eq_true rfl) ⟨Nat.le_of_ble_eq_true rfl, Nat.le_of_ble_eq_true rfl⟩ d_Acc_moves_111 ⟨Nat.le_of_ble_eq_true rfl, Nat.le_of_ble_eq_true rfl⟩ (fun H locs hP hD hS => ?_)
        refine lv_goto (tgt := 152) hx hb d_Acc_moves_114 (by decide) ?_
        refine lv_iconst (v := (1 : Int32)) hx hb d_Acc_moves_152 (by decide) ?_
        have ef : f_Acc_moves p0 p1 p2 w g sp nx lt ex en = ((1 : Int32), (f_Mem_keepPart t7.1 (f_Acc_sizeOf p0) (f_Sta_register p1 g) (f_Map_mark (if (f_Acc_stores p0) = (0 : Int32) then (1 : Int32) else (2 : Int32)) w t7.2)), g, sp, nx, lt, ex, t7.2) := by unfold f_Acc_moves; try dsimp only; rw [if_pos h1, if_pos h8, if_pos h12]
        exact k_zret hx hb hr hlocks hK hP hD hS [0, 1, 2, 3, 4, 5, 6] rfl (by rw [ef] <;> rfl) (by rw [ef] <;> rfl) nb1 d_Acc_moves_153
    · refine lv_aload_n hx hb d_Acc_moves_69 rfl (lv_at hl 3 rfl) ?_
      refine lv_iload_n hx hb d_Acc_moves_70 rfl (lv_at hl 6 rfl) ?_
      refine lv_iload hx hb d_Acc_moves_71 (lv_at hl 1 rfl) ?_
      refine lv_iload hx hb d_Acc_moves_73 (lv_at hl 0 rfl) ?_
      let t18 := (f_Acc_refuse p2 (if (f_Acc_stores p0) = (0 : Int32) then (1 : Int32) else (2 : Int32)) t7.1 sp ex)
      refine k_cVv (As := [.int p2, .int (if (f_Acc_stores p0) = (0 : Int32) then (1 : Int32) else (2 : Int32)), .int t7.1]) (rest := []) (wr := []) (wj := [(aM, .inr (8, [.ref aW])), (aW, .inl (cW, 16384, .inl w)), (aS, .inr (9, [.ref aG, .ref aX, .int t18.2.1, .int t18.2.2.1, .int sm, .int t18.2.2.2])), (aG, .inl (cG, 32, .inl g)), (aX, .inl (cX, 64, .inl t18.1)), (aQ, .inr (7, [.ref aM, .ref aS, .int t7.2])), (aZ, .inr (0, [.ref aM, .ref aS, .ref aQ]))]) ⟨hx, hb, hml, hown, hB⟩ (c_Acc_refuse l D aM aW aS aG aX aQ aZ cW cG cX w g sp nx lt sm ex t7.2 p2 (if (f_Acc_stores p0) = (0 : Int32) then (1 : Int32) else (2 : Int32)) t7.1) yl_Acc_refuse mw_578 hK hN hP hD hS hA [0, 1, 2] [0, 1, 2, 3, 4, 5, 6] [] [0, 1, 2, 3, 4, 5, 6] rfl rfl rfl rfl (by decide +kernel) 6 rfl rfl rfl rfl hl.1 rfl (Nat.le_of_ble_eq_true rfl) ⟨Nat.le_of_ble_eq_true rfl, Nat.le_of_ble_eq_true rfl⟩ d_Acc_moves_75 ⟨Nat.le_of_ble_eq_true rfl, Nat.le_of_ble_eq_true rfl⟩ (fun H locs hP hD hS => ?_)
      refine lv_iconst (v := (0 : Int32)) hx hb d_Acc_moves_78 (by decide) ?_
      have ef : f_Acc_moves p0 p1 p2 w g sp nx lt ex en = ((0 : Int32), w, g, t18.1, t18.2.1, t18.2.2.1, t18.2.2.2, t7.2) := by unfold f_Acc_moves; try dsimp only; rw [if_pos h1, if_neg h8]
      exact k_zret hx hb hr hlocks hK hP hD hS [0, 1, 2, 3, 4, 5, 6] rfl (by rw [ef] <;> rfl) (by rw [ef] <;> rfl) nb0 d_Acc_moves_79
  · refine lv_aload_n hx hb d_Acc_moves_15 rfl (lv_at hl 1 rfl) ?_
    refine va_get (D := D) (ci := 0) (v := .ref aS) (C := "MappedProcessor$Accesses") (T := T_Acc) (N := 3) hx hb hB iw_Acc hown hK hP 6 rfl rfl 1 (by decide) (hB _ mw_200) (fun _ h9 => h9) rfl d_Acc_moves_16 ?_
    refine lv_sipush (v := (1536 : Int32)) hx hb d_Acc_moves_19 (by decide) ?_
    refine lv_iconst (v := (0 : Int32)) hx hb d_Acc_moves_22 (by decide) ?_
    let t19 := (f_Sta_raise (1536 : Int32) (0 : Int32) sp ex)
    refine k_cVv (As := [.int (1536 : Int32), .int (0 : Int32)]) (rest := []) (wr := [(aM, .inr (8, [.ref aW])), (aW, .inl (cW, 16384, .inl w)), (aQ, .inr (7, [.ref aM, .ref aS, .int en])), (aZ, .inr (0, [.ref aM, .ref aS, .ref aQ]))]) (wj := [(aM, .inr (8, [.ref aW])), (aW, .inl (cW, 16384, .inl w)), (aS, .inr (9, [.ref aG, .ref aX, .int t19.2.1, .int t19.2.2.1, .int sm, .int t19.2.2.2])), (aG, .inl (cG, 32, .inl g)), (aX, .inl (cX, 64, .inl t19.1)), (aQ, .inr (7, [.ref aM, .ref aS, .int en])), (aZ, .inr (0, [.ref aM, .ref aS, .ref aQ]))]) ⟨hx, hb, hml, hown, hB⟩ (c_Sta_raise l D aS aG aX cG cX g sp nx lt sm ex (1536 : Int32) (0 : Int32)) yl_Sta_raise mw_572 hK hN hP hD hS hA [1, 2] [2, 3, 4] [0, 1, 5, 6] [0, 1, 4, 5, 6, 2, 3] rfl rfl rfl rfl (by decide +kernel) 0 rfl rfl rfl rfl hl.1 rfl (Nat.le_of_ble_eq_true rfl) ⟨Nat.le_of_ble_eq_true rfl, Nat.le_of_ble_eq_true rfl⟩ d_Acc_moves_23 ⟨Nat.le_of_ble_eq_true rfl, Nat.le_of_ble_eq_true rfl⟩ (fun H locs hP hD hS => ?_)
    refine lv_aload_n hx hb d_Acc_moves_26 rfl (lv_at hl 1 rfl) ?_
    refine va_get (D := D) (ci := 0) (v := .ref aS) (C := "MappedProcessor$Accesses") (T := T_Acc) (N := 3) hx hb hB iw_Acc hown hK hP 6 rfl rfl 1 (by decide) (hB _ mw_200) (fun _ h9 => h9) rfl d_Acc_moves_27 ?_
    refine lv_bipush (v := (9 : Int32)) hx hb d_Acc_moves_30 (by decide) ?_
    refine lv_iload_n hx hb d_Acc_moves_32 rfl (lv_at hl 4 rfl) ?_
    refine k_cVv (As := [.int (9 : Int32), .int p2]) (rest := []) (wr := [(aM, .inr (8, [.ref aW])), (aW, .inl (cW, 16384, .inl w)), (aQ, .inr (7, [.ref aM, .ref aS, .int en])), (aZ, .inr (0, [.ref aM, .ref aS, .ref aQ]))]) (wj := [(aM, .inr (8, [.ref aW])), (aW, .inl (cW, 16384, .inl w)), (aS, .inr (9, [.ref aG, .ref aX, .int t19.2.1, .int t19.2.2.1, .int sm, .int t19.2.2.2])), (aG, .inl (cG, 32, .inl g)), (aX, .inl (cX, 64, .inl (f_Sta_keep (9 : Int32) p2 t19.1))), (aQ, .inr (7, [.ref aM, .ref aS, .int en])), (aZ, .inr (0, [.ref aM, .ref aS, .ref aQ]))]) ⟨hx, hb, hml, hown, hB⟩ (c_Sta_keep l D aS aG aX cG cX g t19.1 t19.2.1 t19.2.2.1 sm t19.2.2.2 (9 : Int32) p2) yl_Sta_keep mw_573 hK hN hP hD hS hA [1, 2] [2, 3, 4] [0, 1, 5, 6] [0, 1, 4, 5, 6, 2, 3] rfl rfl rfl rfl (by decide +kernel) 0 rfl rfl rfl rfl hl.1 rfl (Nat.le_of_ble_eq_true rfl) ⟨Nat.le_of_ble_eq_true rfl, Nat.le_of_ble_eq_true rfl⟩ d_Acc_moves_33 ⟨Nat.le_of_ble_eq_true rfl, Nat.le_of_ble_eq_true rfl⟩ (fun H locs hP hD hS => ?_)
    refine lv_iconst (v := (0 : Int32)) hx hb d_Acc_moves_36 (by decide) ?_
    have ef : f_Acc_moves p0 p1 p2 w g sp nx lt ex en = ((0 : Int32), w, g, (f_Sta_keep (9 : Int32) p2 t19.1), t19.2.1, t19.2.2.1, t19.2.2.2, en) := by unfold f_Acc_moves; try dsimp only; rw [if_neg h1]
    exact k_zret hx hb hr hlocks hK hP hD hS [0, 1, 2, 3, 4, 5, 6] rfl (by rw [ef] <;> rfl) (by rw [ef] <;> rfl) nb0 d_Acc_moves_37
/-! MappedProcessor$Accesses.runsIndexed(LMappedProcessor$Instruction;)Z -/
theorem d_Acc_runsIndexed_0 : decode b_Acc_runsIndexed 0 = .ok (.aload_n 1, 1) := by decide +kernel
theorem d_Acc_runsIndexed_1 : decode b_Acc_runsIndexed 1 = .ok (.getfield 63, 3) := by decide +kernel
theorem d_Acc_runsIndexed_4 : decode b_Acc_runsIndexed 4 = .ok (.invokestatic 66, 3) := by decide +kernel
theorem d_Acc_runsIndexed_7 : decode b_Acc_runsIndexed 7 = .ok (.istore_n 2, 1) := by decide +kernel
theorem d_Acc_runsIndexed_8 : decode b_Acc_runsIndexed 8 = .ok (.iload_n 2, 1) := by decide +kernel
theorem d_Acc_runsIndexed_9 : decode b_Acc_runsIndexed 9 = .ok (.iconst (-1), 1) := by decide +kernel
theorem d_Acc_runsIndexed_10 : decode b_Acc_runsIndexed 10 = .ok (.if_icmp .ne 5, 3) := by decide +kernel
theorem d_Acc_runsIndexed_13 : decode b_Acc_runsIndexed 13 = .ok (.iconst 0, 1) := by decide +kernel
theorem d_Acc_runsIndexed_14 : decode b_Acc_runsIndexed 14 = .ok (.ireturn, 1) := by decide +kernel
theorem d_Acc_runsIndexed_15 : decode b_Acc_runsIndexed 15 = .ok (.aload_n 0, 1) := by decide +kernel
theorem d_Acc_runsIndexed_16 : decode b_Acc_runsIndexed 16 = .ok (.iload_n 2, 1) := by decide +kernel
theorem d_Acc_runsIndexed_17 : decode b_Acc_runsIndexed 17 = .ok (.aload_n 1, 1) := by decide +kernel
theorem d_Acc_runsIndexed_18 : decode b_Acc_runsIndexed 18 = .ok (.getfield 52, 3) := by decide +kernel
theorem d_Acc_runsIndexed_21 : decode b_Acc_runsIndexed 21 = .ok (.aload_n 0, 1) := by decide +kernel
theorem d_Acc_runsIndexed_22 : decode b_Acc_runsIndexed 22 = .ok (.getfield 15, 3) := by decide +kernel
theorem d_Acc_runsIndexed_25 : decode b_Acc_runsIndexed 25 = .ok (.aload_n 1, 1) := by decide +kernel
theorem d_Acc_runsIndexed_26 : decode b_Acc_runsIndexed 26 = .ok (.getfield 41, 3) := by decide +kernel
theorem d_Acc_runsIndexed_29 : decode b_Acc_runsIndexed 29 = .ok (.invokevirtual 44, 3) := by decide +kernel
theorem d_Acc_runsIndexed_32 : decode b_Acc_runsIndexed 32 = .ok (.aload_n 0, 1) := by decide +kernel
theorem d_Acc_runsIndexed_33 : decode b_Acc_runsIndexed 33 = .ok (.getfield 15, 3) := by decide +kernel
theorem d_Acc_runsIndexed_36 : decode b_Acc_runsIndexed 36 = .ok (.aload_n 1, 1) := by decide +kernel
theorem d_Acc_runsIndexed_37 : decode b_Acc_runsIndexed 37 = .ok (.getfield 69, 3) := by decide +kernel
theorem d_Acc_runsIndexed_40 : decode b_Acc_runsIndexed 40 = .ok (.invokevirtual 72, 3) := by decide +kernel
theorem d_Acc_runsIndexed_43 : decode b_Acc_runsIndexed 43 = .ok (.iadd, 1) := by decide +kernel
theorem d_Acc_runsIndexed_44 : decode b_Acc_runsIndexed 44 = .ok (.invokevirtual 55, 3) := by decide +kernel
theorem d_Acc_runsIndexed_47 : decode b_Acc_runsIndexed 47 = .ok (.pop, 1) := by decide +kernel
theorem d_Acc_runsIndexed_48 : decode b_Acc_runsIndexed 48 = .ok (.iconst 1, 1) := by decide +kernel
theorem d_Acc_runsIndexed_49 : decode b_Acc_runsIndexed 49 = .ok (.ireturn, 1) := by decide +kernel
def f_Acc_runsIndexed (w : Nat → Int32) (g : Nat → Int32) (sp : Nat → Int32) (nx : Int32) (lt : Int32) (ex : Int32) (en : Int32) (id : Int32) (ia : Int32) (ib : Int32) (ii : Int32) : Int32 × (Nat → Int32) × (Nat → Int32) × (Nat → Int32) × Int32 × Int32 × Int32 × Int32 :=
  if (f_Acc_plainForm ii) = (-1 : Int32) then
    ((0 : Int32), w, g, sp, nx, lt, ex, en)
  else
    let t2 := (f_Acc_moves (f_Acc_plainForm ii) id ((f_Sta_registerOrZero ia g) + (f_Sta_register ib g)) w g sp nx lt ex en)
    ((1 : Int32), t2.2.1, t2.2.2.1, t2.2.2.2.1, t2.2.2.2.2.1, t2.2.2.2.2.2.1, t2.2.2.2.2.2.2.1, t2.2.2.2.2.2.2.2)
set_option maxHeartbeats 4000000 in
set_option maxRecDepth 100000 in
theorem ib_Acc_runsIndexed (w : Nat → Int32) (g : Nat → Int32) (sp : Nat → Int32) (nx : Int32) (lt : Int32) (ex : Int32) (en : Int32) (id : Int32) (ia : Int32) (ib : Int32) (ii : Int32) : isB (f_Acc_runsIndexed w g sp nx lt ex en id ia ib ii).1 := by
  unfold f_Acc_runsIndexed
  try dsimp only
  repeat' (first | refine ib_ite ?_ ?_ | refine ib_ite0 ?_ ?_ | with_reducible exact ib0 | with_reducible exact ib1 | with_reducible exact ib_Acc_moves _ _ _ _ _ _ _ _ _ _ | (dsimp only; first | exact ib0 | exact ib1))
theorem nb_Acc_runsIndexed (w : Nat → Int32) (g : Nat → Int32) (sp : Nat → Int32) (nx : Int32) (lt : Int32) (ex : Int32) (en : Int32) (id : Int32) (ia : Int32) (ib : Int32) (ii : Int32) : narrow .boolean (.int (f_Acc_runsIndexed w g sp nx lt ex en id ia ib ii).1) = .int (f_Acc_runsIndexed w g sp nx lt ex en id ia ib ii).1 := nb_of (ib_Acc_runsIndexed w g sp nx lt ex en id ia ib ii)
set_option maxHeartbeats 4000000 in
set_option maxRecDepth 100000 in
theorem c_Acc_runsIndexed (l : Launch) (D : va_G) (aM aW aS aG aX aQ aI aZ : Nat) (cW cG cX : ClassId) (w : Nat → Int32) (g : Nat → Int32) (sp : Nat → Int32) (nx : Int32) (lt : Int32) (sm : Int32) (ex : Int32) (en : Int32) (iw : Int32) (io : Int32) (id : Int32) (ia : Int32) (ib : Int32) (ii : Int32) (is : Int32) (iu : Int32) (_q0 : Nat) : kMi l y_Acc_runsIndexed b_Acc_runsIndexed 3 (some .boolean) 4 102 D kCl [(cW, .int), (cG, .int), (cX, .int)] [.ref aZ, .ref aI] [(aM, .inr (8, [.ref aW])), (aW, .inl (cW, 16384, .inl w)), (aS, .inr (9, [.ref aG, .ref aX, .int nx, .int lt, .int sm, .int ex])), (aG, .inl (cG, 32, .inl g)), (aX, .inl (cX, 64, .inl sp)), (aQ, .inr (7, [.ref aM, .ref aS, .int en])), (aI, .inr (5, [.int iw, .int io, .int id, .int ia, .int ib, .int ii, .int is, .int iu])), (aZ, .inr (0, [.ref aM, .ref aS, .ref aQ]))] (f_Acc_runsIndexed w g sp nx lt ex en id ia ib ii).1 [(aM, .inr (8, [.ref aW])), (aW, .inl (cW, 16384, .inl (f_Acc_runsIndexed w g sp nx lt ex en id ia ib ii).2.1)), (aS, .inr (9, [.ref aG, .ref aX, .int (f_Acc_runsIndexed w g sp nx lt ex en id ia ib ii).2.2.2.2.1, .int (f_Acc_runsIndexed w g sp nx lt ex en id ia ib ii).2.2.2.2.2.1, .int sm, .int (f_Acc_runsIndexed w g sp nx lt ex en id ia ib ii).2.2.2.2.2.2.1])), (aG, .inl (cG, 32, .inl (f_Acc_runsIndexed w g sp nx lt ex en id ia ib ii).2.2.1)), (aX, .inl (cX, 64, .inl (f_Acc_runsIndexed w g sp nx lt ex en id ia ib ii).2.2.2.1)), (aQ, .inr (7, [.ref aM, .ref aS, .int (f_Acc_runsIndexed w g sp nx lt ex en id ia ib ii).2.2.2.2.2.2.2])), (aI, .inr (5, [.int iw, .int io, .int id, .int ia, .int ib, .int ii, .int is, .int iu])), (aZ, .inr (0, [.ref aM, .ref aS, .ref aQ]))] := by
  refine k_entry (Qc := fun A => kQi D kCl [(cW, .int), (cG, .int), (cX, .int)] (f_Acc_runsIndexed w g sp nx lt ex en id ia ib ii).1 [(aM, .inr (8, [.ref aW])), (aW, .inl (cW, 16384, .inl (f_Acc_runsIndexed w g sp nx lt ex en id ia ib ii).2.1)), (aS, .inr (9, [.ref aG, .ref aX, .int (f_Acc_runsIndexed w g sp nx lt ex en id ia ib ii).2.2.2.2.1, .int (f_Acc_runsIndexed w g sp nx lt ex en id ia ib ii).2.2.2.2.2.1, .int sm, .int (f_Acc_runsIndexed w g sp nx lt ex en id ia ib ii).2.2.2.2.2.2.1])), (aG, .inl (cG, 32, .inl (f_Acc_runsIndexed w g sp nx lt ex en id ia ib ii).2.2.1)), (aX, .inl (cX, 64, .inl (f_Acc_runsIndexed w g sp nx lt ex en id ia ib ii).2.2.2.1)), (aQ, .inr (7, [.ref aM, .ref aS, .int (f_Acc_runsIndexed w g sp nx lt ex en id ia ib ii).2.2.2.2.2.2.2])), (aI, .inr (5, [.int iw, .int io, .int id, .int ia, .int ib, .int ii, .int is, .int iu])), (aZ, .inr (0, [.ref aM, .ref aS, .ref aQ]))] A) (lv := [(0, .ref aZ), (1, .ref aI)]) (by decide) (Nat.le_of_ble_eq_true rfl) rfl ?_
  intro p e s m below meth c A ls hx hb hr hml hB hown hlocks hin hA hK hN hP hD hS hl
  have hown : s.vm.findClass "MappedProcessor$Accesses" = some m.cls := hown
  refine lv_aload_n hx hb d_Acc_runsIndexed_0 rfl (lv_at hl 1 rfl) ?_
  refine va_get (D := D) (ci := 5) (v := .int ii) (C := "MappedProcessor$Instruction") (T := T_Ins) (N := 8) hx hb hB iw_Ins hown hK hP 6 rfl rfl 5 (by decide) (hB _ mw_114) (fun _ h9 => h9) rfl d_Acc_runsIndexed_1 ?_
  refine k_cSi (As := [.int ii]) (rest := []) (wr := [(aM, .inr (8, [.ref aW])), (aW, .inl (cW, 16384, .inl w)), (aS, .inr (9, [.ref aG, .ref aX, .int nx, .int lt, .int sm, .int ex])), (aG, .inl (cG, 32, .inl g)), (aX, .inl (cX, 64, .inl sp)), (aQ, .inr (7, [.ref aM, .ref aS, .int en])), (aI, .inr (5, [.int iw, .int io, .int id, .int ia, .int ib, .int ii, .int is, .int iu])), (aZ, .inr (0, [.ref aM, .ref aS, .ref aQ]))]) (wj := [(aM, .inr (8, [.ref aW])), (aW, .inl (cW, 16384, .inl w)), (aS, .inr (9, [.ref aG, .ref aX, .int nx, .int lt, .int sm, .int ex])), (aG, .inl (cG, 32, .inl g)), (aX, .inl (cX, 64, .inl sp)), (aQ, .inr (7, [.ref aM, .ref aS, .int en])), (aI, .inr (5, [.int iw, .int io, .int id, .int ia, .int ib, .int ii, .int is, .int iu])), (aZ, .inr (0, [.ref aM, .ref aS, .ref aQ]))]) ⟨hx, hb, hml, hown, hB⟩ (c_Acc_plainForm l D ii) yl_Acc_plainForm mw_560 hK hN hP hD hS hA [] [] [0, 1, 2, 3, 4, 5, 6, 7] [0, 1, 2, 3, 4, 5, 6, 7] rfl rfl rfl rfl (by decide +kernel) rfl hl.1 rfl (Nat.le_of_ble_eq_true rfl) ⟨Nat.le_of_ble_eq_true rfl, Nat.le_of_ble_eq_true rfl⟩ d_Acc_runsIndexed_4 ⟨Nat.le_of_ble_eq_true rfl, Nat.le_of_ble_eq_true rfl⟩ (fun H locs hP hD hS => ?_)
  refine lv_istore_n (lv' := [(2, .int (f_Acc_plainForm ii)), (0, .ref aZ), (1, .ref aI)]) hx hb d_Acc_runsIndexed_7 rfl hl (by decide) rfl (fun ls hl => ?_)
  refine lv_iload_n hx hb d_Acc_runsIndexed_8 rfl (lv_at hl 0 rfl) ?_
  refine lv_iconst (v := (-1 : Int32)) hx hb d_Acc_runsIndexed_9 (by decide) ?_
  refine lv_icmp_ne (tgt := 15) hx hb d_Acc_runsIndexed_10 (by decide) (fun (h1 : ¬ (f_Acc_plainForm ii) = (-1 : Int32)) => ?_) (fun (h1 : (f_Acc_plainForm ii) = (-1 : Int32)) => ?_)
  · refine lv_aload_n hx hb d_Acc_runsIndexed_15 rfl (lv_at hl 1 rfl) ?_
    refine lv_iload_n hx hb d_Acc_runsIndexed_16 rfl (lv_at hl 0 rfl) ?_
    refine lv_aload_n hx hb d_Acc_runsIndexed_17 rfl (lv_at hl 2 rfl) ?_
    refine va_get (D := D) (ci := 5) (v := .int id) (C := "MappedProcessor$Instruction") (T := T_Ins) (N := 8) hx hb hB iw_Ins hown hK hP 6 rfl rfl 2 (by decide) (hB _ mw_93) (fun _ h9 => h9) rfl d_Acc_runsIndexed_18 ?_
    refine lv_aload_n hx hb d_Acc_runsIndexed_21 rfl (lv_at hl 1 rfl) ?_
    refine va_get (D := D) (ci := 0) (v := .ref aS) (C := "MappedProcessor$Accesses") (T := T_Acc) (N := 3) hx hb hB iw_Acc hown hK hP 7 rfl rfl 1 (by decide) (hB _ mw_200) (fun _ h9 => h9) rfl d_Acc_runsIndexed_22 ?_
    refine lv_aload_n hx hb d_Acc_runsIndexed_25 rfl (lv_at hl 2 rfl) ?_
    refine va_get (D := D) (ci := 5) (v := .int ia) (C := "MappedProcessor$Instruction") (T := T_Ins) (N := 8) hx hb hB iw_Ins hown hK hP 6 rfl rfl 3 (by decide) (hB _ mw_100) (fun _ h9 => h9) rfl d_Acc_runsIndexed_26 ?_
    refine k_cVi (As := [.int ia]) (rest := [.int id, .int (f_Acc_plainForm ii), .ref aZ]) (wr := [(aM, .inr (8, [.ref aW])), (aW, .inl (cW, 16384, .inl w)), (aQ, .inr (7, [.ref aM, .ref aS, .int en])), (aI, .inr (5, [.int iw, .int io, .int id, .int ia, .int ib, .int ii, .int is, .int iu])), (aZ, .inr (0, [.ref aM, .ref aS, .ref aQ]))]) (wj := [(aM, .inr (8, [.ref aW])), (aW, .inl (cW, 16384, .inl w)), (aS, .inr (9, [.ref aG, .ref aX, .int nx, .int lt, .int sm, .int ex])), (aG, .inl (cG, 32, .inl g)), (aX, .inl (cX, 64, .inl sp)), (aQ, .inr (7, [.ref aM, .ref aS, .int en])), (aI, .inr (5, [.int iw, .int io, .int id, .int ia, .int ib, .int ii, .int is, .int iu])), (aZ, .inr (0, [.ref aM, .ref aS, .ref aQ]))]) ⟨hx, hb, hml, hown, hB⟩ (c_Sta_registerOrZero l D aS aG aX cG cX g sp nx lt sm ex ia) yl_Sta_registerOrZero mw_563 hK hN hP hD hS hA [1, 2] [2, 3, 4] [0, 1, 5, 6, 7] [0, 1, 5, 6, 7, 2, 3, 4] rfl rfl rfl rfl (by decide +kernel) 0 rfl rfl rfl rfl hl.1 rfl (Nat.le_of_ble_eq_true rfl) ⟨Nat.le_of_ble_eq_true rfl, Nat.le_of_ble_eq_true rfl⟩ d_Acc_runsIndexed_29 ⟨Nat.le_of_ble_eq_true rfl, Nat.le_of_ble_eq_true rfl⟩ (fun H locs hP hD hS => ?_)
    refine lv_aload_n hx hb d_Acc_runsIndexed_32 rfl (lv_at hl 1 rfl) ?_
    refine va_get (D := D) (ci := 0) (v := .ref aS) (C := "MappedProcessor$Accesses") (T := T_Acc) (N := 3) hx hb hB iw_Acc hown hK hP 7 rfl rfl 1 (by decide) (hB _ mw_200) (fun _ h9 => h9) rfl d_Acc_runsIndexed_33 ?_
    refine lv_aload_n hx hb d_Acc_runsIndexed_36 rfl (lv_at hl 2 rfl) ?_
    refine va_get (D := D) (ci := 5) (v := .int ib) (C := "MappedProcessor$Instruction") (T := T_Ins) (N := 8) hx hb hB iw_Ins hown hK hP 6 rfl rfl 4 (by decide) (hB _ mw_108) (fun _ h9 => h9) rfl d_Acc_runsIndexed_37 ?_
    refine k_cVi (As := [.int ib]) (rest := [.int (f_Sta_registerOrZero ia g), .int id, .int (f_Acc_plainForm ii), .ref aZ]) (wr := [(aM, .inr (8, [.ref aW])), (aW, .inl (cW, 16384, .inl w)), (aQ, .inr (7, [.ref aM, .ref aS, .int en])), (aI, .inr (5, [.int iw, .int io, .int id, .int ia, .int ib, .int ii, .int is, .int iu])), (aZ, .inr (0, [.ref aM, .ref aS, .ref aQ]))]) (wj := [(aM, .inr (8, [.ref aW])), (aW, .inl (cW, 16384, .inl w)), (aS, .inr (9, [.ref aG, .ref aX, .int nx, .int lt, .int sm, .int ex])), (aG, .inl (cG, 32, .inl g)), (aX, .inl (cX, 64, .inl sp)), (aQ, .inr (7, [.ref aM, .ref aS, .int en])), (aI, .inr (5, [.int iw, .int io, .int id, .int ia, .int ib, .int ii, .int is, .int iu])), (aZ, .inr (0, [.ref aM, .ref aS, .ref aQ]))]) ⟨hx, hb, hml, hown, hB⟩ (c_Sta_register l D aS aG aX cG cX g sp nx lt sm ex ib) yl_Sta_register mw_564 hK hN hP hD hS hA [1, 2] [2, 3, 4] [0, 1, 5, 6, 7] [0, 1, 5, 6, 7, 2, 3, 4] rfl rfl rfl rfl (by decide +kernel) 0 rfl rfl rfl rfl hl.1 rfl (Nat.le_of_ble_eq_true rfl) ⟨Nat.le_of_ble_eq_true rfl, Nat.le_of_ble_eq_true rfl⟩ d_Acc_runsIndexed_40 ⟨Nat.le_of_ble_eq_true rfl, Nat.le_of_ble_eq_true rfl⟩ (fun H locs hP hD hS => ?_)
    refine lv_iadd hx hb d_Acc_runsIndexed_43 ?_
    let t2 := (f_Acc_moves (f_Acc_plainForm ii) id ((f_Sta_registerOrZero ia g) + (f_Sta_register ib g)) w g sp nx lt ex en)
    refine k_cVi (As := [.int (f_Acc_plainForm ii), .int id, .int ((f_Sta_registerOrZero ia g) + (f_Sta_register ib g))]) (rest := []) (wr := [(aI, .inr (5, [.int iw, .int io, .int id, .int ia, .int ib, .int ii, .int is, .int iu]))]) (wj := [(aM, .inr (8, [.ref aW])), (aW, .inl (cW, 16384, .inl t2.2.1)), (aS, .inr (9, [.ref aG, .ref aX, .int t2.2.2.2.2.1, .int t2.2.2.2.2.2.1, .int sm, .int t2.2.2.2.2.2.2.1])), (aG, .inl (cG, 32, .inl t2.2.2.1)), (aX, .inl (cX, 64, .inl t2.2.2.2.1)), (aQ, .inr (7, [.ref aM, .ref aS, .int t2.2.2.2.2.2.2.2])), (aI, .inr (5, [.int iw, .int io, .int id, .int ia, .int ib, .int ii, .int is, .int iu])), (aZ, .inr (0, [.ref aM, .ref aS, .ref aQ]))]) ⟨hx, hb, hml, hown, hB⟩ (c_Acc_moves l D aM aW aS aG aX aQ aZ cW cG cX w g sp nx lt sm ex en (f_Acc_plainForm ii) id ((f_Sta_registerOrZero ia g) + (f_Sta_register ib g))) yl_Acc_moves mw_565 hK hN hP hD hS hA [0, 1, 2] [0, 1, 2, 3, 4, 5, 7] [6] [1, 2, 3, 4, 5, 6, 0, 7] rfl rfl rfl rfl (by decide +kernel) 6 rfl rfl rfl rfl hl.1 rfl (Nat.le_of_ble_eq_true rfl) ⟨Nat.le_of_ble_eq_true rfl, Nat.le_of_ble_eq_true rfl⟩ d_Acc_runsIndexed_44 ⟨Nat.le_of_ble_eq_true rfl, Nat.le_of_ble_eq_true rfl⟩ (fun H locs hP hD hS => ?_)
    refine lv_pop hx hb d_Acc_runsIndexed_47 rfl ?_
    refine lv_iconst (v := (1 : Int32)) hx hb d_Acc_runsIndexed_48 (by decide) ?_
    have ef : f_Acc_runsIndexed w g sp nx lt ex en id ia ib ii = ((1 : Int32), t2.2.1, t2.2.2.1, t2.2.2.2.1, t2.2.2.2.2.1, t2.2.2.2.2.2.1, t2.2.2.2.2.2.2.1, t2.2.2.2.2.2.2.2) := by unfold f_Acc_runsIndexed; try dsimp only; rw [if_neg h1]
    exact k_zret hx hb hr hlocks hK hP hD hS [0, 1, 2, 3, 4, 5, 6, 7] rfl (by rw [ef] <;> rfl) (by rw [ef] <;> rfl) nb1 d_Acc_runsIndexed_49
  · refine lv_iconst (v := (0 : Int32)) hx hb d_Acc_runsIndexed_13 (by decide) ?_
    have ef : f_Acc_runsIndexed w g sp nx lt ex en id ia ib ii = ((0 : Int32), w, g, sp, nx, lt, ex, en) := by unfold f_Acc_runsIndexed; try dsimp only; rw [if_pos h1]
    exact k_zret hx hb hr hlocks hK hP hD hS [0, 1, 2, 3, 4, 5, 6, 7] rfl (by rw [ef] <;> rfl) (by rw [ef] <;> rfl) nb0 d_Acc_runsIndexed_14
/-! MappedProcessor$Accesses.updates(I)Z -/
theorem d_Acc_updates_0 : decode b_Acc_updates 0 = .ok (.iload_n 0, 1) := by decide +kernel
theorem d_Acc_updates_1 : decode b_Acc_updates 1 = .ok (.bipush 33, 2) := by decide +kernel
theorem d_Acc_updates_3 : decode b_Acc_updates 3 = .ok (.if_icmp .eq 21, 3) := by decide +kernel
theorem d_Acc_updates_6 : decode b_Acc_updates 6 = .ok (.iload_n 0, 1) := by decide +kernel
theorem d_Acc_updates_7 : decode b_Acc_updates 7 = .ok (.bipush 35, 2) := by decide +kernel
theorem d_Acc_updates_9 : decode b_Acc_updates 9 = .ok (.if_icmp .eq 15, 3) := by decide +kernel
theorem d_Acc_updates_12 : decode b_Acc_updates 12 = .ok (.iload_n 0, 1) := by decide +kernel
theorem d_Acc_updates_13 : decode b_Acc_updates 13 = .ok (.bipush 37, 2) := by decide +kernel
theorem d_Acc_updates_15 : decode b_Acc_updates 15 = .ok (.if_icmp .eq 9, 3) := by decide +kernel
theorem d_Acc_updates_18 : decode b_Acc_updates 18 = .ok (.iload_n 0, 1) := by decide +kernel
theorem d_Acc_updates_19 : decode b_Acc_updates 19 = .ok (.bipush 39, 2) := by decide +kernel
theorem d_Acc_updates_21 : decode b_Acc_updates 21 = .ok (.if_icmp .ne 7, 3) := by decide +kernel
theorem d_Acc_updates_24 : decode b_Acc_updates 24 = .ok (.iconst 1, 1) := by decide +kernel
theorem d_Acc_updates_25 : decode b_Acc_updates 25 = .ok (.goto 4, 3) := by decide +kernel
theorem d_Acc_updates_28 : decode b_Acc_updates 28 = .ok (.iconst 0, 1) := by decide +kernel
theorem d_Acc_updates_29 : decode b_Acc_updates 29 = .ok (.ireturn, 1) := by decide +kernel
def f_Acc_updates (p0 : Int32) : Int32 :=
  (if p0 = (33 : Int32) then (1 : Int32) else (if p0 = (35 : Int32) then (1 : Int32) else (if p0 = (37 : Int32) then (1 : Int32) else (if p0 = (39 : Int32) then (1 : Int32) else (0 : Int32)))))
set_option maxHeartbeats 4000000 in
set_option maxRecDepth 100000 in
theorem ib_Acc_updates (p0 : Int32) : isB (f_Acc_updates p0) := by
  unfold f_Acc_updates
  try dsimp only
  repeat' (first | refine ib_ite ?_ ?_ | refine ib_ite0 ?_ ?_ | with_reducible exact ib0 | with_reducible exact ib1 | (dsimp only; first | exact ib0 | exact ib1))
theorem nb_Acc_updates (p0 : Int32) : narrow .boolean (.int (f_Acc_updates p0)) = .int (f_Acc_updates p0) := nb_of (ib_Acc_updates p0)
set_option maxHeartbeats 4000000 in
set_option maxRecDepth 100000 in
theorem c_Acc_updates (l : Launch) (D : va_G) (p0 : Int32) : kMi l y_Acc_updates b_Acc_updates 1 (some .boolean) 0 0 D kCl [] [.int p0] [] (f_Acc_updates p0) [] := by
  refine k_entry (Qc := fun A => kQi D kCl [] (f_Acc_updates p0) [] A) (lv := [(0, .int p0)]) (by decide) (Nat.le_of_ble_eq_true rfl) rfl ?_
  intro p e s m below meth c A ls hx hb hr hml hB hown hlocks hin hA hK hN hP hD hS hl
  have hown : s.vm.findClass "MappedProcessor$Accesses" = some m.cls := hown
  refine lv_iload_n hx hb d_Acc_updates_0 rfl (lv_at hl 0 rfl) ?_
  refine lv_bipush (v := (33 : Int32)) hx hb d_Acc_updates_1 (by decide) ?_
  refine k_join2 (c0 := p0 = (33 : Int32)) (x1 := (1 : Int32)) (x2 := (if p0 = (35 : Int32) then (1 : Int32) else (if p0 = (37 : Int32) then (1 : Int32) else (if p0 = (39 : Int32) then (1 : Int32) else (0 : Int32))))) (rest := []) 29 ?_ (fun k2 k3 => ?_)
  rotate_left
  · refine lv_icmp_eq (tgt := 24) hx hb d_Acc_updates_3 (by decide) (fun (h1 : p0 = (33 : Int32)) => ?_) (fun (h1 : ¬ p0 = (33 : Int32)) => ?_)
    · refine lv_iconst (v := (1 : Int32)) hx hb d_Acc_updates_24 (by decide) ?_
      refine lv_goto (tgt := 29) hx hb d_Acc_updates_25 (by decide) ?_
      exact k2 h1
    · refine lv_iload_n hx hb d_Acc_updates_6 rfl (lv_at hl 0 rfl) ?_
      refine lv_bipush (v := (35 : Int32)) hx hb d_Acc_updates_7 (by decide) ?_
      refine k_join2 (c0 := p0 = (35 : Int32)) (x1 := (1 : Int32)) (x2 := (if p0 = (37 : Int32) then (1 : Int32) else (if p0 = (39 : Int32) then (1 : Int32) else (0 : Int32)))) (rest := []) 29 ?_ (fun k5 k6 => ?_)
      rotate_left
      · refine lv_icmp_eq (tgt := 24) hx hb d_Acc_updates_9 (by decide) (fun (h4 : p0 = (35 : Int32)) => ?_) (fun (h4 : ¬ p0 = (35 : Int32)) => ?_)
        · refine lv_iconst (v := (1 : Int32)) hx hb d_Acc_updates_24 (by decide) ?_
          refine lv_goto (tgt := 29) hx hb d_Acc_updates_25 (by decide) ?_
          exact k5 h4
        · refine lv_iload_n hx hb d_Acc_updates_12 rfl (lv_at hl 0 rfl) ?_
          refine lv_bipush (v := (37 : Int32)) hx hb d_Acc_updates_13 (by decide) ?_
          refine k_join2 (c0 := p0 = (37 : Int32)) (x1 := (1 : Int32)) (x2 := (if p0 = (39 : Int32) then (1 : Int32) else (0 : Int32))) (rest := []) 29 ?_ (fun k8 k9 => ?_)
          rotate_left
          · refine lv_icmp_eq (tgt := 24) hx hb d_Acc_updates_15 (by decide) (fun (h7 : p0 = (37 : Int32)) => ?_) (fun (h7 : ¬ p0 = (37 : Int32)) => ?_)
            · refine lv_iconst (v := (1 : Int32)) hx hb d_Acc_updates_24 (by decide) ?_
              refine lv_goto (tgt := 29) hx hb d_Acc_updates_25 (by decide) ?_
              exact k8 h7
            · refine lv_iload_n hx hb d_Acc_updates_18 rfl (lv_at hl 0 rfl) ?_
              refine lv_bipush (v := (39 : Int32)) hx hb d_Acc_updates_19 (by decide) ?_
              refine k_join2 (c0 := p0 = (39 : Int32)) (x1 := (1 : Int32)) (x2 := (0 : Int32)) (rest := []) 29 ?_ (fun k11 k12 => ?_)
              rotate_left
              · refine lv_icmp_ne (tgt := 28) hx hb d_Acc_updates_21 (by decide) (fun (h10 : ¬ p0 = (39 : Int32)) => ?_) (fun (h10 : p0 = (39 : Int32)) => ?_)
                · refine lv_iconst (v := (0 : Int32)) hx hb d_Acc_updates_28 (by decide) ?_
                  exact k12 h10
                · refine lv_iconst (v := (1 : Int32)) hx hb d_Acc_updates_24 (by decide) ?_
                  refine lv_goto (tgt := 29) hx hb d_Acc_updates_25 (by decide) ?_
                  exact k11 h10
              exact k9 h7
          exact k6 h4
      exact k3 h1
  have ef : f_Acc_updates p0 = (if p0 = (33 : Int32) then (1 : Int32) else (if p0 = (35 : Int32) then (1 : Int32) else (if p0 = (37 : Int32) then (1 : Int32) else (if p0 = (39 : Int32) then (1 : Int32) else (0 : Int32))))) := rfl
  exact k_zret hx hb hr hlocks hK hP hD hS [] rfl rfl (by rw [ef] <;> rfl) (nb_ite nb1 (nb_ite nb1 (nb_ite nb1 (nb_ite nb1 nb0)))) d_Acc_updates_29
/-! MappedProcessor$Accesses.canUpdate(LMappedProcessor$Instruction;)Z -/
theorem d_Acc_canUpdate_0 : decode b_Acc_canUpdate 0 = .ok (.aload_n 0, 1) := by decide +kernel
theorem d_Acc_canUpdate_1 : decode b_Acc_canUpdate 1 = .ok (.getfield 41, 3) := by decide +kernel
theorem d_Acc_canUpdate_4 : decode b_Acc_canUpdate 4 = .ok (.ifCond .eq 28, 3) := by decide +kernel
theorem d_Acc_canUpdate_7 : decode b_Acc_canUpdate 7 = .ok (.aload_n 0, 1) := by decide +kernel
theorem d_Acc_canUpdate_8 : decode b_Acc_canUpdate 8 = .ok (.getfield 23, 3) := by decide +kernel
theorem d_Acc_canUpdate_11 : decode b_Acc_canUpdate 11 = .ok (.invokestatic 75, 3) := by decide +kernel
theorem d_Acc_canUpdate_14 : decode b_Acc_canUpdate 14 = .ok (.ifCond .ne 14, 3) := by decide +kernel
theorem d_Acc_canUpdate_17 : decode b_Acc_canUpdate 17 = .ok (.aload_n 0, 1) := by decide +kernel
theorem d_Acc_canUpdate_18 : decode b_Acc_canUpdate 18 = .ok (.getfield 41, 3) := by decide +kernel
theorem d_Acc_canUpdate_21 : decode b_Acc_canUpdate 21 = .ok (.aload_n 0, 1) := by decide +kernel
theorem d_Acc_canUpdate_22 : decode b_Acc_canUpdate 22 = .ok (.getfield 52, 3) := by decide +kernel
theorem d_Acc_canUpdate_25 : decode b_Acc_canUpdate 25 = .ok (.if_icmp .eq 7, 3) := by decide +kernel
theorem d_Acc_canUpdate_28 : decode b_Acc_canUpdate 28 = .ok (.iconst 1, 1) := by decide +kernel
theorem d_Acc_canUpdate_29 : decode b_Acc_canUpdate 29 = .ok (.goto 4, 3) := by decide +kernel
theorem d_Acc_canUpdate_32 : decode b_Acc_canUpdate 32 = .ok (.iconst 0, 1) := by decide +kernel
theorem d_Acc_canUpdate_33 : decode b_Acc_canUpdate 33 = .ok (.ireturn, 1) := by decide +kernel
def f_Acc_canUpdate (io : Int32) (id : Int32) (ia : Int32) : Int32 :=
  if ia = (0 : Int32) then
    (0 : Int32)
  else
    (if (f_Acc_stores io) = (0 : Int32) then (if ia = id then (0 : Int32) else (1 : Int32)) else (1 : Int32))
set_option maxHeartbeats 4000000 in
set_option maxRecDepth 100000 in
theorem ib_Acc_canUpdate (io : Int32) (id : Int32) (ia : Int32) : isB (f_Acc_canUpdate io id ia) := by
  unfold f_Acc_canUpdate
  try dsimp only
  repeat' (first | refine ib_ite ?_ ?_ | refine ib_ite0 ?_ ?_ | with_reducible exact ib0 | with_reducible exact ib1 | with_reducible exact ib_Acc_stores _ | (dsimp only; first | exact ib0 | exact ib1))
theorem nb_Acc_canUpdate (io : Int32) (id : Int32) (ia : Int32) : narrow .boolean (.int (f_Acc_canUpdate io id ia)) = .int (f_Acc_canUpdate io id ia) := nb_of (ib_Acc_canUpdate io id ia)
set_option maxHeartbeats 4000000 in
set_option maxRecDepth 100000 in
theorem c_Acc_canUpdate (l : Launch) (D : va_G) (aI : Nat) (iw : Int32) (io : Int32) (id : Int32) (ia : Int32) (ib : Int32) (ii : Int32) (is : Int32) (iu : Int32) (_q0 : Nat) : kMi l y_Acc_canUpdate b_Acc_canUpdate 1 (some .boolean) 1 20 D kCl [] [.ref aI] [(aI, .inr (5, [.int iw, .int io, .int id, .int ia, .int ib, .int ii, .int is, .int iu]))] (f_Acc_canUpdate io id ia) [(aI, .inr (5, [.int iw, .int io, .int id, .int ia, .int ib, .int ii, .int is, .int iu]))] := by
  refine k_entry (Qc := fun A => kQi D kCl [] (f_Acc_canUpdate io id ia) [(aI, .inr (5, [.int iw, .int io, .int id, .int ia, .int ib, .int ii, .int is, .int iu]))] A) (lv := [(0, .ref aI)]) (by decide) (Nat.le_of_ble_eq_true rfl) rfl ?_
  intro p e s m below meth c A ls hx hb hr hml hB hown hlocks hin hA hK hN hP hD hS hl
  have hown : s.vm.findClass "MappedProcessor$Accesses" = some m.cls := hown
  refine lv_aload_n hx hb d_Acc_canUpdate_0 rfl (lv_at hl 0 rfl) ?_
  refine va_get (D := D) (ci := 5) (v := .int ia) (C := "MappedProcessor$Instruction") (T := T_Ins) (N := 8) hx hb hB iw_Ins hown hK hP 0 rfl rfl 3 (by decide) (hB _ mw_100) (fun _ h9 => h9) rfl d_Acc_canUpdate_1 ?_
  refine lv_if_eq (tgt := 32) hx hb d_Acc_canUpdate_4 (by decide) (fun (h4 : ia = (0 : Int32)) => ?_) (fun (h4 : ¬ ia = (0 : Int32)) => ?_)
  · refine lv_iconst (v := (0 : Int32)) hx hb d_Acc_canUpdate_32 (by decide) ?_
    have ef : f_Acc_canUpdate io id ia = (0 : Int32) := by unfold f_Acc_canUpdate; rw [if_pos h4]
    exact k_zret hx hb hr hlocks hK hP hD hS [0] rfl rfl (by rw [ef] <;> rfl) nb0 d_Acc_canUpdate_33
  · refine lv_aload_n hx hb d_Acc_canUpdate_7 rfl (lv_at hl 0 rfl) ?_
    refine va_get (D := D) (ci := 5) (v := .int io) (C := "MappedProcessor$Instruction") (T := T_Ins) (N := 8) hx hb hB iw_Ins hown hK hP 0 rfl rfl 1 (by decide) (hB _ mw_84) (fun _ h9 => h9) rfl d_Acc_canUpdate_8 ?_
    refine k_cSi (As := [.int io]) (rest := []) (wr := [(aI, .inr (5, [.int iw, .int io, .int id, .int ia, .int ib, .int ii, .int is, .int iu]))]) (wj := [(aI, .inr (5, [.int iw, .int io, .int id, .int ia, .int ib, .int ii, .int is, .int iu]))]) ⟨hx, hb, hml, hown, hB⟩ (c_Acc_stores l D io) yl_Acc_stores mw_574 hK hN hP hD hS hA [] [] [0] [0] rfl rfl rfl rfl (by decide +kernel) rfl hl.1 rfl (Nat.le_of_ble_eq_true rfl) ⟨Nat.le_of_ble_eq_true rfl, Nat.le_of_ble_eq_true rfl⟩ d_Acc_canUpdate_11 ⟨Nat.le_of_ble_eq_true rfl, Nat.le_of_ble_eq_true rfl⟩ (fun H locs hP hD hS => ?_)
    refine k_join2 (c0 := (f_Acc_stores io) = (0 : Int32)) (x1 := (if ia = id then (0 : Int32) else (1 : Int32))) (x2 := (1 : Int32)) (rest := []) 33 ?_ (fun k6 k7 => ?_)
    rotate_left
    · refine lv_if_ne (tgt := 28) hx hb d_Acc_canUpdate_14 (by decide) (fun (h5 : ¬ (f_Acc_stores io) = (0 : Int32)) => ?_) (fun (h5 : (f_Acc_stores io) = (0 : Int32)) => ?_)
      · refine lv_iconst (v := (1 : Int32)) hx hb d_Acc_canUpdate_28 (by decide) ?_
        refine lv_goto (tgt := 33) hx hb d_Acc_canUpdate_29 (by decide) ?_
        exact k7 h5
      · refine lv_aload_n hx hb d_Acc_canUpdate_17 rfl (lv_at hl 0 rfl) ?_
        refine va_get (D := D) (ci := 5) (v := .int ia) (C := "MappedProcessor$Instruction") (T := T_Ins) (N := 8) hx hb hB iw_Ins hown hK hP 0 rfl rfl 3 (by decide) (hB _ mw_100) (fun _ h9 => h9) rfl d_Acc_canUpdate_18 ?_
        refine lv_aload_n hx hb d_Acc_canUpdate_21 rfl (lv_at hl 0 rfl) ?_
        refine va_get (D := D) (ci := 5) (v := .int id) (C := "MappedProcessor$Instruction") (T := T_Ins) (N := 8) hx hb hB iw_Ins hown hK hP 0 rfl rfl 2 (by decide) (hB _ mw_93) (fun _ h9 => h9) rfl d_Acc_canUpdate_22 ?_
        refine k_join2 (c0 := ia = id) (x1 := (0 : Int32)) (x2 := (1 : Int32)) (rest := []) 33 ?_ (fun k9 k10 => ?_)
        rotate_left
        · refine lv_icmp_eq (tgt := 32) hx hb d_Acc_canUpdate_25 (by decide) (fun (h8 : ia = id) => ?_) (fun (h8 : ¬ ia = id) => ?_)
          · refine lv_iconst (v := (0 : Int32)) hx hb d_Acc_canUpdate_32 (by decide) ?_
            exact k9 h8
          · refine lv_iconst (v := (1 : Int32)) hx hb d_Acc_canUpdate_28 (by decide) ?_
            refine lv_goto (tgt := 33) hx hb d_Acc_canUpdate_29 (by decide) ?_
            exact k10 h8
        exact k6 h5
    have ef : f_Acc_canUpdate io id ia = (if (f_Acc_stores io) = (0 : Int32) then (if ia = id then (0 : Int32) else (1 : Int32)) else (1 : Int32)) := by unfold f_Acc_canUpdate; rw [if_neg h4]
    exact k_zret hx hb hr hlocks hK hP hD hS [0] rfl rfl (by rw [ef] <;> rfl) (nb_ite (nb_ite nb0 nb1) nb1) d_Acc_canUpdate_33
/-! MappedProcessor$Accesses.runs(LMappedProcessor$Instruction;)Z -/
theorem d_Acc_runs_0 : decode b_Acc_runs 0 = .ok (.aload_n 1, 1) := by decide +kernel
theorem d_Acc_runs_1 : decode b_Acc_runs 1 = .ok (.getfield 23, 3) := by decide +kernel
theorem d_Acc_runs_4 : decode b_Acc_runs 4 = .ok (.invokestatic 29, 3) := by decide +kernel
theorem d_Acc_runs_7 : decode b_Acc_runs 7 = .ok (.ifCond .eq 20, 3) := by decide +kernel
theorem d_Acc_runs_10 : decode b_Acc_runs 10 = .ok (.aload_n 1, 1) := by decide +kernel
theorem d_Acc_runs_11 : decode b_Acc_runs 11 = .ok (.getfield 23, 3) := by decide +kernel
theorem d_Acc_runs_14 : decode b_Acc_runs 14 = .ok (.invokestatic 33, 3) := by decide +kernel
theorem d_Acc_runs_17 : decode b_Acc_runs 17 = .ok (.ifCond .eq 12, 3) := by decide +kernel
theorem d_Acc_runs_20 : decode b_Acc_runs 20 = .ok (.aload_n 1, 1) := by decide +kernel
theorem d_Acc_runs_21 : decode b_Acc_runs 21 = .ok (.invokestatic 37, 3) := by decide +kernel
theorem d_Acc_runs_24 : decode b_Acc_runs 24 = .ok (.ifCond .ne 5, 3) := by decide +kernel
theorem d_Acc_runs_27 : decode b_Acc_runs 27 = .ok (.iconst 0, 1) := by decide +kernel
theorem d_Acc_runs_28 : decode b_Acc_runs 28 = .ok (.ireturn, 1) := by decide +kernel
theorem d_Acc_runs_29 : decode b_Acc_runs 29 = .ok (.aload_n 0, 1) := by decide +kernel
theorem d_Acc_runs_30 : decode b_Acc_runs 30 = .ok (.getfield 15, 3) := by decide +kernel
theorem d_Acc_runs_33 : decode b_Acc_runs 33 = .ok (.aload_n 1, 1) := by decide +kernel
theorem d_Acc_runs_34 : decode b_Acc_runs 34 = .ok (.getfield 41, 3) := by decide +kernel
theorem d_Acc_runs_37 : decode b_Acc_runs 37 = .ok (.invokevirtual 44, 3) := by decide +kernel
theorem d_Acc_runs_40 : decode b_Acc_runs 40 = .ok (.aload_n 1, 1) := by decide +kernel
theorem d_Acc_runs_41 : decode b_Acc_runs 41 = .ok (.getfield 49, 3) := by decide +kernel
theorem d_Acc_runs_44 : decode b_Acc_runs 44 = .ok (.iadd, 1) := by decide +kernel
theorem d_Acc_runs_45 : decode b_Acc_runs 45 = .ok (.istore_n 2, 1) := by decide +kernel
theorem d_Acc_runs_46 : decode b_Acc_runs 46 = .ok (.aload_n 0, 1) := by decide +kernel
theorem d_Acc_runs_47 : decode b_Acc_runs 47 = .ok (.aload_n 1, 1) := by decide +kernel
theorem d_Acc_runs_48 : decode b_Acc_runs 48 = .ok (.getfield 23, 3) := by decide +kernel
theorem d_Acc_runs_51 : decode b_Acc_runs 51 = .ok (.aload_n 1, 1) := by decide +kernel
theorem d_Acc_runs_52 : decode b_Acc_runs 52 = .ok (.getfield 52, 3) := by decide +kernel
theorem d_Acc_runs_55 : decode b_Acc_runs 55 = .ok (.iload_n 2, 1) := by decide +kernel
theorem d_Acc_runs_56 : decode b_Acc_runs 56 = .ok (.invokevirtual 55, 3) := by decide +kernel
theorem d_Acc_runs_59 : decode b_Acc_runs 59 = .ok (.ifCond .eq 25, 3) := by decide +kernel
theorem d_Acc_runs_62 : decode b_Acc_runs 62 = .ok (.aload_n 1, 1) := by decide +kernel
theorem d_Acc_runs_63 : decode b_Acc_runs 63 = .ok (.getfield 23, 3) := by decide +kernel
theorem d_Acc_runs_66 : decode b_Acc_runs 66 = .ok (.invokestatic 33, 3) := by decide +kernel
theorem d_Acc_runs_69 : decode b_Acc_runs 69 = .ok (.ifCond .eq 15, 3) := by decide +kernel
theorem d_Acc_runs_72 : decode b_Acc_runs 72 = .ok (.aload_n 0, 1) := by decide +kernel
theorem d_Acc_runs_73 : decode b_Acc_runs 73 = .ok (.getfield 15, 3) := by decide +kernel
theorem d_Acc_runs_76 : decode b_Acc_runs 76 = .ok (.aload_n 1, 1) := by decide +kernel
theorem d_Acc_runs_77 : decode b_Acc_runs 77 = .ok (.getfield 41, 3) := by decide +kernel
theorem d_Acc_runs_80 : decode b_Acc_runs 80 = .ok (.iload_n 2, 1) := by decide +kernel
theorem d_Acc_runs_81 : decode b_Acc_runs 81 = .ok (.invokevirtual 59, 3) := by decide +kernel
theorem d_Acc_runs_84 : decode b_Acc_runs 84 = .ok (.iconst 1, 1) := by decide +kernel
theorem d_Acc_runs_85 : decode b_Acc_runs 85 = .ok (.ireturn, 1) := by decide +kernel
def f_Acc_runs (w : Nat → Int32) (g : Nat → Int32) (sp : Nat → Int32) (nx : Int32) (lt : Int32) (ex : Int32) (en : Int32) (io : Int32) (id : Int32) (ia : Int32) (is : Int32) : Int32 × (Nat → Int32) × (Nat → Int32) × (Nat → Int32) × Int32 × Int32 × Int32 × Int32 :=
  if (f_Acc_sizeOf io) = (0 : Int32) then
    ((0 : Int32), w, g, sp, nx, lt, ex, en)
  else
    if (f_Acc_updates io) = (0 : Int32) then
      let t3 := (f_Acc_moves io id ((f_Sta_registerOrZero ia g) + is) w g sp nx lt ex en)
      if t3.1 = (0 : Int32) then
        ((1 : Int32), t3.2.1, t3.2.2.1, t3.2.2.2.1, t3.2.2.2.2.1, t3.2.2.2.2.2.1, t3.2.2.2.2.2.2.1, t3.2.2.2.2.2.2.2)
      else
        ((1 : Int32), t3.2.1, t3.2.2.1, t3.2.2.2.1, t3.2.2.2.2.1, t3.2.2.2.2.2.1, t3.2.2.2.2.2.2.1, t3.2.2.2.2.2.2.2)
    else
      if (f_Acc_canUpdate io id ia) = (0 : Int32) then
        ((0 : Int32), w, g, sp, nx, lt, ex, en)
      else
        let t10 := (f_Acc_moves io id ((f_Sta_registerOrZero ia g) + is) w g sp nx lt ex en)
        if t10.1 = (0 : Int32) then
          ((1 : Int32), t10.2.1, t10.2.2.1, t10.2.2.2.1, t10.2.2.2.2.1, t10.2.2.2.2.2.1, t10.2.2.2.2.2.2.1, t10.2.2.2.2.2.2.2)
        else
          ((1 : Int32), t10.2.1, (f_Sta_keepRegister ia ((f_Sta_registerOrZero ia g) + is) t10.2.2.1), t10.2.2.2.1, t10.2.2.2.2.1, t10.2.2.2.2.2.1, t10.2.2.2.2.2.2.1, t10.2.2.2.2.2.2.2)
set_option maxHeartbeats 4000000 in
set_option maxRecDepth 100000 in
theorem ib_Acc_runs (w : Nat → Int32) (g : Nat → Int32) (sp : Nat → Int32) (nx : Int32) (lt : Int32) (ex : Int32) (en : Int32) (io : Int32) (id : Int32) (ia : Int32) (is : Int32) : isB (f_Acc_runs w g sp nx lt ex en io id ia is).1 := by
  unfold f_Acc_runs
  try dsimp only
  repeat' (first | refine ib_ite ?_ ?_ | refine ib_ite0 ?_ ?_ | with_reducible exact ib0 | with_reducible exact ib1 | with_reducible exact ib_Acc_canUpdate _ _ _ | with_reducible exact ib_Acc_moves _ _ _ _ _ _ _ _ _ _ | with_reducible exact ib_Acc_updates _ | (dsimp only; first | exact ib0 | exact ib1))
theorem nb_Acc_runs (w : Nat → Int32) (g : Nat → Int32) (sp : Nat → Int32) (nx : Int32) (lt : Int32) (ex : Int32) (en : Int32) (io : Int32) (id : Int32) (ia : Int32) (is : Int32) : narrow .boolean (.int (f_Acc_runs w g sp nx lt ex en io id ia is).1) = .int (f_Acc_runs w g sp nx lt ex en io id ia is).1 := nb_of (ib_Acc_runs w g sp nx lt ex en io id ia is)
set_option maxHeartbeats 4000000 in
set_option maxRecDepth 100000 in
theorem c_Acc_runs (l : Launch) (D : va_G) (aM aW aS aG aX aQ aI aZ : Nat) (cW cG cX : ClassId) (w : Nat → Int32) (g : Nat → Int32) (sp : Nat → Int32) (nx : Int32) (lt : Int32) (sm : Int32) (ex : Int32) (en : Int32) (iw : Int32) (io : Int32) (id : Int32) (ia : Int32) (ib : Int32) (ii : Int32) (is : Int32) (iu : Int32) (_q0 : Nat) : kMi l y_Acc_runs b_Acc_runs 3 (some .boolean) 4 102 D kCl [(cW, .int), (cG, .int), (cX, .int)] [.ref aZ, .ref aI] [(aM, .inr (8, [.ref aW])), (aW, .inl (cW, 16384, .inl w)), (aS, .inr (9, [.ref aG, .ref aX, .int nx, .int lt, .int sm, .int ex])), (aG, .inl (cG, 32, .inl g)), (aX, .inl (cX, 64, .inl sp)), (aQ, .inr (7, [.ref aM, .ref aS, .int en])), (aI, .inr (5, [.int iw, .int io, .int id, .int ia, .int ib, .int ii, .int is, .int iu])), (aZ, .inr (0, [.ref aM, .ref aS, .ref aQ]))] (f_Acc_runs w g sp nx lt ex en io id ia is).1 [(aM, .inr (8, [.ref aW])), (aW, .inl (cW, 16384, .inl (f_Acc_runs w g sp nx lt ex en io id ia is).2.1)), (aS, .inr (9, [.ref aG, .ref aX, .int (f_Acc_runs w g sp nx lt ex en io id ia is).2.2.2.2.1, .int (f_Acc_runs w g sp nx lt ex en io id ia is).2.2.2.2.2.1, .int sm, .int (f_Acc_runs w g sp nx lt ex en io id ia is).2.2.2.2.2.2.1])), (aG, .inl (cG, 32, .inl (f_Acc_runs w g sp nx lt ex en io id ia is).2.2.1)), (aX, .inl (cX, 64, .inl (f_Acc_runs w g sp nx lt ex en io id ia is).2.2.2.1)), (aQ, .inr (7, [.ref aM, .ref aS, .int (f_Acc_runs w g sp nx lt ex en io id ia is).2.2.2.2.2.2.2])), (aI, .inr (5, [.int iw, .int io, .int id, .int ia, .int ib, .int ii, .int is, .int iu])), (aZ, .inr (0, [.ref aM, .ref aS, .ref aQ]))] := by
  refine k_entry (Qc := fun A => kQi D kCl [(cW, .int), (cG, .int), (cX, .int)] (f_Acc_runs w g sp nx lt ex en io id ia is).1 [(aM, .inr (8, [.ref aW])), (aW, .inl (cW, 16384, .inl (f_Acc_runs w g sp nx lt ex en io id ia is).2.1)), (aS, .inr (9, [.ref aG, .ref aX, .int (f_Acc_runs w g sp nx lt ex en io id ia is).2.2.2.2.1, .int (f_Acc_runs w g sp nx lt ex en io id ia is).2.2.2.2.2.1, .int sm, .int (f_Acc_runs w g sp nx lt ex en io id ia is).2.2.2.2.2.2.1])), (aG, .inl (cG, 32, .inl (f_Acc_runs w g sp nx lt ex en io id ia is).2.2.1)), (aX, .inl (cX, 64, .inl (f_Acc_runs w g sp nx lt ex en io id ia is).2.2.2.1)), (aQ, .inr (7, [.ref aM, .ref aS, .int (f_Acc_runs w g sp nx lt ex en io id ia is).2.2.2.2.2.2.2])), (aI, .inr (5, [.int iw, .int io, .int id, .int ia, .int ib, .int ii, .int is, .int iu])), (aZ, .inr (0, [.ref aM, .ref aS, .ref aQ]))] A) (lv := [(0, .ref aZ), (1, .ref aI)]) (by decide) (Nat.le_of_ble_eq_true rfl) rfl ?_
  intro p e s m below meth c A ls hx hb hr hml hB hown hlocks hin hA hK hN hP hD hS hl
  have hown : s.vm.findClass "MappedProcessor$Accesses" = some m.cls := hown
  refine lv_aload_n hx hb d_Acc_runs_0 rfl (lv_at hl 1 rfl) ?_
  refine va_get (D := D) (ci := 5) (v := .int io) (C := "MappedProcessor$Instruction") (T := T_Ins) (N := 8) hx hb hB iw_Ins hown hK hP 6 rfl rfl 1 (by decide) (hB _ mw_84) (fun _ h9 => h9) rfl d_Acc_runs_1 ?_
  refine k_cSi (As := [.int io]) (rest := []) (wr := [(aM, .inr (8, [.ref aW])), (aW, .inl (cW, 16384, .inl w)), (aS, .inr (9, [.ref aG, .ref aX, .int nx, .int lt, .int sm, .int ex])), (aG, .inl (cG, 32, .inl g)), (aX, .inl (cX, 64, .inl sp)), (aQ, .inr (7, [.ref aM, .ref aS, .int en])), (aI, .inr (5, [.int iw, .int io, .int id, .int ia, .int ib, .int ii, .int is, .int iu])), (aZ, .inr (0, [.ref aM, .ref aS, .ref aQ]))]) (wj := [(aM, .inr (8, [.ref aW])), (aW, .inl (cW, 16384, .inl w)), (aS, .inr (9, [.ref aG, .ref aX, .int nx, .int lt, .int sm, .int ex])), (aG, .inl (cG, 32, .inl g)), (aX, .inl (cX, 64, .inl sp)), (aQ, .inr (7, [.ref aM, .ref aS, .int en])), (aI, .inr (5, [.int iw, .int io, .int id, .int ia, .int ib, .int ii, .int is, .int iu])), (aZ, .inr (0, [.ref aM, .ref aS, .ref aQ]))]) ⟨hx, hb, hml, hown, hB⟩ (c_Acc_sizeOf l D io) yl_Acc_sizeOf mw_569 hK hN hP hD hS hA [] [] [0, 1, 2, 3, 4, 5, 6, 7] [0, 1, 2, 3, 4, 5, 6, 7] rfl rfl rfl rfl (by decide +kernel) rfl hl.1 rfl (Nat.le_of_ble_eq_true rfl) ⟨Nat.le_of_ble_eq_true rfl, Nat.le_of_ble_eq_true rfl⟩ d_Acc_runs_4 ⟨Nat.le_of_ble_eq_true rfl, Nat.le_of_ble_eq_true rfl⟩ (fun H locs hP hD hS => ?_)
  refine lv_if_eq (tgt := 27) hx hb d_Acc_runs_7 (by decide) (fun (h1 : (f_Acc_sizeOf io) = (0 : Int32)) => ?_) (fun (h1 : ¬ (f_Acc_sizeOf io) = (0 : Int32)) => ?_)
  · refine lv_iconst (v := (0 : Int32)) hx hb d_Acc_runs_27 (by decide) ?_
    have ef : f_Acc_runs w g sp nx lt ex en io id ia is = ((0 : Int32), w, g, sp, nx, lt, ex, en) := by unfold f_Acc_runs; try dsimp only; rw [if_pos h1]
    exact k_zret hx hb hr hlocks hK hP hD hS [0, 1, 2, 3, 4, 5, 6, 7] rfl (by rw [ef] <;> rfl) (by rw [ef] <;> rfl) nb0 d_Acc_runs_28
  · refine lv_aload_n hx hb d_Acc_runs_10 rfl (lv_at hl 1 rfl) ?_
    refine va_get (D := D) (ci := 5) (v := .int io) (C := "MappedProcessor$Instruction") (T := T_Ins) (N := 8) hx hb hB iw_Ins hown hK hP 6 rfl rfl 1 (by decide) (hB _ mw_84) (fun _ h9 => h9) rfl d_Acc_runs_11 ?_
    refine k_cSi (As := [.int io]) (rest := []) (wr := [(aM, .inr (8, [.ref aW])), (aW, .inl (cW, 16384, .inl w)), (aS, .inr (9, [.ref aG, .ref aX, .int nx, .int lt, .int sm, .int ex])), (aG, .inl (cG, 32, .inl g)), (aX, .inl (cX, 64, .inl sp)), (aQ, .inr (7, [.ref aM, .ref aS, .int en])), (aI, .inr (5, [.int iw, .int io, .int id, .int ia, .int ib, .int ii, .int is, .int iu])), (aZ, .inr (0, [.ref aM, .ref aS, .ref aQ]))]) (wj := [(aM, .inr (8, [.ref aW])), (aW, .inl (cW, 16384, .inl w)), (aS, .inr (9, [.ref aG, .ref aX, .int nx, .int lt, .int sm, .int ex])), (aG, .inl (cG, 32, .inl g)), (aX, .inl (cX, 64, .inl sp)), (aQ, .inr (7, [.ref aM, .ref aS, .int en])), (aI, .inr (5, [.int iw, .int io, .int id, .int ia, .int ib, .int ii, .int is, .int iu])), (aZ, .inr (0, [.ref aM, .ref aS, .ref aQ]))]) ⟨hx, hb, hml, hown, hB⟩ (c_Acc_updates l D io) yl_Acc_updates mw_606 hK hN hP hD hS hA [] [] [0, 1, 2, 3, 4, 5, 6, 7] [0, 1, 2, 3, 4, 5, 6, 7] rfl rfl rfl rfl (by decide +kernel) rfl hl.1 rfl (Nat.le_of_ble_eq_true rfl) ⟨Nat.le_of_ble_eq_true rfl, Nat.le_of_ble_eq_true rfl⟩ d_Acc_runs_14 ⟨Nat.le_of_ble_eq_true rfl, Nat.le_of_ble_eq_true rfl⟩ (fun H locs hP hD hS => ?_)
    refine lv_if_eq (tgt := 29) hx hb d_Acc_runs_17 (by decide) (fun (h2 : (f_Acc_updates io) = (0 : Int32)) => ?_) (fun (h2 : ¬ (f_Acc_updates io) = (0 : Int32)) => ?_)
    · refine lv_aload_n hx hb d_Acc_runs_29 rfl (lv_at hl 0 rfl) ?_
      refine va_get (D := D) (ci := 0) (v := .ref aS) (C := "MappedProcessor$Accesses") (T := T_Acc) (N := 3) hx hb hB iw_Acc hown hK hP 7 rfl rfl 1 (by decide) (hB _ mw_200) (fun _ h9 => h9) rfl d_Acc_runs_30 ?_
      refine lv_aload_n hx hb d_Acc_runs_33 rfl (lv_at hl 1 rfl) ?_
      refine va_get (D := D) (ci := 5) (v := .int ia) (C := "MappedProcessor$Instruction") (T := T_Ins) (N := 8) hx hb hB iw_Ins hown hK hP 6 rfl rfl 3 (by decide) (hB _ mw_100) (fun _ h9 => h9) rfl d_Acc_runs_34 ?_
      refine k_cVi (As := [.int ia]) (rest := []) (wr := [(aM, .inr (8, [.ref aW])), (aW, .inl (cW, 16384, .inl w)), (aQ, .inr (7, [.ref aM, .ref aS, .int en])), (aI, .inr (5, [.int iw, .int io, .int id, .int ia, .int ib, .int ii, .int is, .int iu])), (aZ, .inr (0, [.ref aM, .ref aS, .ref aQ]))]) (wj := [(aM, .inr (8, [.ref aW])), (aW, .inl (cW, 16384, .inl w)), (aS, .inr (9, [.ref aG, .ref aX, .int nx, .int lt, .int sm, .int ex])), (aG, .inl (cG, 32, .inl g)), (aX, .inl (cX, 64, .inl sp)), (aQ, .inr (7, [.ref aM, .ref aS, .int en])), (aI, .inr (5, [.int iw, .int io, .int id, .int ia, .int ib, .int ii, .int is, .int iu])), (aZ, .inr (0, [.ref aM, .ref aS, .ref aQ]))]) ⟨hx, hb, hml, hown, hB⟩ (c_Sta_registerOrZero l D aS aG aX cG cX g sp nx lt sm ex ia) yl_Sta_registerOrZero mw_563 hK hN hP hD hS hA [1, 2] [2, 3, 4] [0, 1, 5, 6, 7] [0, 1, 5, 6, 7, 2, 3, 4] rfl rfl rfl rfl (by decide +kernel) 0 rfl rfl rfl rfl hl.1 rfl (Nat.le_of_ble_eq_true rfl) ⟨Nat.le_of_ble_eq_true rfl, Nat.le_of_ble_eq_true rfl⟩ d_Acc_runs_37 ⟨Nat.le_of_ble_eq_true rfl, Nat.le_of_ble_eq_true rfl⟩ (fun H locs hP hD hS => ?_)
      refine lv_aload_n hx hb d_Acc_runs_40 rfl (lv_at hl 1 rfl) ?_
      refine va_get (D := D) (ci := 5) (v := .int is) (C := "MappedProcessor$Instruction") (T := T_Ins) (N := 8) hx hb hB iw_Ins hown hK hP 6 rfl rfl 6 (by decide) (hB _ mw_118) (fun _ h9 => h9) rfl d_Acc_runs_41 ?_
      refine lv_iadd hx hb d_Acc_runs_44 ?_
      refine lv_istore_n (lv' := [(2, .int ((f_Sta_registerOrZero ia g) + is)), (0, .ref aZ), (1, .ref aI)]) hx hb d_Acc_runs_45 rfl hl (by decide) rfl (fun ls hl => ?_)
      refine lv_aload_n hx hb d_Acc_runs_46 rfl (lv_at hl 1 rfl) ?_
      refine lv_aload_n hx hb d_Acc_runs_47 rfl (lv_at hl 2 rfl) ?_
      refine va_get (D := D) (ci := 5) (v := .int io) (C := "MappedProcessor$Instruction") (T := T_Ins) (N := 8) hx hb hB iw_Ins hown hK hP 6 rfl rfl 1 (by decide) (hB _ mw_84) (fun _ h9 => h9) rfl d_Acc_runs_48 ?_
      refine lv_aload_n hx hb d_Acc_runs_51 rfl (lv_at hl 2 rfl) ?_
      refine va_get (D := D) (ci := 5) (v := .int id) (C := "MappedProcessor$Instruction") (T := T_Ins) (N := 8) hx hb hB iw_Ins hown hK hP 6 rfl rfl 2 (by decide) (hB _ mw_93) (fun _ h9 => h9) rfl d_Acc_runs_52 ?_
      refine lv_iload_n hx hb d_Acc_runs_55 rfl (lv_at hl 0 rfl) ?_
      let t3 := (f_Acc_moves io id ((f_Sta_registerOrZero ia g) + is) w g sp nx lt ex en)
      refine k_cVi (As := [.int io, .int id, .int ((f_Sta_registerOrZero ia g) + is)]) (rest := []) (wr := [(aI, .inr (5, [.int iw, .int io, .int id, .int ia, .int ib, .int ii, .int is, .int iu]))]) (wj := [(aM, .inr (8, [.ref aW])), (aW, .inl (cW, 16384, .inl t3.2.1)), (aS, .inr (9, [.ref aG, .ref aX, .int t3.2.2.2.2.1, .int t3.2.2.2.2.2.1, .int sm, .int t3.2.2.2.2.2.2.1])), (aG, .inl (cG, 32, .inl t3.2.2.1)), (aX, .inl (cX, 64, .inl t3.2.2.2.1)), (aQ, .inr (7, [.ref aM, .ref aS, .int t3.2.2.2.2.2.2.2])), (aI, .inr (5, [.int iw, .int io, .int id, .int ia, .int ib, .int ii, .int is, .int iu])), (aZ, .inr (0, [.ref aM, .ref aS, .ref aQ]))]) ⟨hx, hb, hml, hown, hB⟩ (c_Acc_moves l D aM aW aS aG aX aQ aZ cW cG cX w g sp nx lt sm ex en io id ((f_Sta_registerOrZero ia g) + is)) yl_Acc_moves mw_565 hK hN hP hD hS hA [0, 1, 2] [0, 1, 2, 3, 4, 5, 7] [6] [1, 2, 3, 4, 5, 6, 0, 7] rfl rfl rfl rfl (by decide +kernel) 6 rfl rfl rfl rfl hl.1 rfl (Nat.le_of_ble_eq_true rfl) ⟨Nat.le_of_ble_eq_true rfl, Nat.le_of_ble_eq_true rfl⟩ d_Acc_runs_56 ⟨Nat.le_of_ble_eq_true rfl, Nat.le_of_ble_eq_true rfl⟩ (fun H locs hP hD hS => ?_)
      refine lv_if_eq (tgt := 84) hx hb d_Acc_runs_59 (by decide) (fun (h7 : t3.1 = (0 : Int32)) => ?_) (fun (h7 : ¬ t3.1 = (0 : Int32)) => ?_)
      · refine lv_iconst (v := (1 : Int32)) hx hb d_Acc_runs_84 (by decide) ?_
        have ef : f_Acc_runs w g sp nx lt ex en io id ia is = ((1 : Int32), t3.2.1, t3.2.2.1, t3.2.2.2.1, t3.2.2.2.2.1, t3.2.2.2.2.2.1, t3.2.2.2.2.2.2.1, t3.2.2.2.2.2.2.2) := by unfold f_Acc_runs; try dsimp only; rw [if_neg h1, if_pos h2, if_pos h7]
        exact k_zret hx hb hr hlocks hK hP hD hS [0, 1, 2, 3, 4, 5, 6, 7] rfl (by rw [ef] <;> rfl) (by rw [ef] <;> rfl) nb1 d_Acc_runs_85
      · refine lv_aload_n hx hb d_Acc_runs_62 rfl (lv_at hl 2 rfl) ?_
        refine va_get (D := D) (ci := 5) (v := .int io) (C := "MappedProcessor$Instruction") (T := T_Ins) (N := 8) hx hb hB iw_Ins hown hK hP 6 rfl rfl 1 (by decide) (hB _ mw_84) (fun _ h9 => h9) rfl d_Acc_runs_63 ?_
        refine k_cSi (As := [.int io]) (rest := []) (wr := [(aM, .inr (8, [.ref aW])), (aW, .inl (cW, 16384, .inl t3.2.1)), (aS, .inr (9, [.ref aG, .ref aX, .int t3.2.2.2.2.1, .int t3.2.2.2.2.2.1, .int sm, .int t3.2.2.2.2.2.2.1])), (aG, .inl (cG, 32, .inl t3.2.2.1)), (aX, .inl (cX, 64, .inl t3.2.2.2.1)), (aQ, .inr (7, [.ref aM, .ref aS, .int t3.2.2.2.2.2.2.2])), (aI, .inr (5, [.int iw, .int io, .int id, .int ia, .int ib, .int ii, .int is, .int iu])), (aZ, .inr (0, [.ref aM, .ref aS, .ref aQ]))]) (wj := [(aM, .inr (8, [.ref aW])), (aW, .inl (cW, 16384, .inl t3.2.1)), (aS, .inr (9, [.ref aG, .ref aX, .int t3.2.2.2.2.1, .int t3.2.2.2.2.2.1, .int sm, .int t3.2.2.2.2.2.2.1])), (aG, .inl (cG, 32, .inl t3.2.2.1)), (aX, .inl (cX, 64, .inl t3.2.2.2.1)), (aQ, .inr (7, [.ref aM, .ref aS, .int t3.2.2.2.2.2.2.2])), (aI, .inr (5, [.int iw, .int io, .int id, .int ia, .int ib, .int ii, .int is, .int iu])), (aZ, .inr (0, [.ref aM, .ref aS, .ref aQ]))]) ⟨hx, hb, hml, hown, hB⟩ (c_Acc_updates l D io) yl_Acc_updates mw_606 hK hN hP hD hS hA [] [] [0, 1, 2, 3, 4, 5, 6, 7] [0, 1, 2, 3, 4, 5, 6, 7] rfl rfl rfl rfl (by decide +kernel) rfl hl.1 rfl (Nat.le_of_ble_eq_true rfl) ⟨Nat.le_of_ble_eq_true rfl, Nat.le_of_ble_eq_true rfl⟩ d_Acc_runs_66 ⟨Nat.le_of_ble_eq_true rfl, Nat.le_of_ble_eq_true rfl⟩ (fun H locs hP hD hS => ?_)
        refine lv_if_eq (tgt := 84) hx hb d_Acc_runs_69 (by decide) (fun (h8 : (f_Acc_updates io) = (0 : Int32)) => ?_) (fun (h8 : ¬ (f_Acc_updates io) = (0 : Int32)) => ?_)
        rotate_left
        · exact absurd h2 h8
        refine lv_iconst (v := (1 : Int32)) hx hb d_Acc_runs_84 (by decide) ?_
        have ef : f_Acc_runs w g sp nx lt ex en io id ia is = ((1 : Int32), t3.2.1, t3.2.2.1, t3.2.2.2.1, t3.2.2.2.2.1, t3.2.2.2.2.2.1, t3.2.2.2.2.2.2.1, t3.2.2.2.2.2.2.2) := by unfold f_Acc_runs; try dsimp only; rw [if_neg h1, if_pos h2, if_neg h7]
        exact k_zret hx hb hr hlocks hK hP hD hS [0, 1, 2, 3, 4, 5, 6, 7] rfl (by rw [ef] <;> rfl) (by rw [ef] <;> rfl) nb1 d_Acc_runs_85
    · refine lv_aload_n hx hb d_Acc_runs_20 rfl (lv_at hl 1 rfl) ?_
      refine k_cSi (As := [.ref aI]) (rest := []) (wr := [(aM, .inr (8, [.ref aW])), (aW, .inl (cW, 16384, .inl w)), (aS, .inr (9, [.ref aG, .ref aX, .int nx, .int lt, .int sm, .int ex])), (aG, .inl (cG, 32, .inl g)), (aX, .inl (cX, 64, .inl sp)), (aQ, .inr (7, [.ref aM, .ref aS, .int en])), (aZ, .inr (0, [.ref aM, .ref aS, .ref aQ]))]) (wj := [(aM, .inr (8, [.ref aW])), (aW, .inl (cW, 16384, .inl w)), (aS, .inr (9, [.ref aG, .ref aX, .int nx, .int lt, .int sm, .int ex])), (aG, .inl (cG, 32, .inl g)), (aX, .inl (cX, 64, .inl sp)), (aQ, .inr (7, [.ref aM, .ref aS, .int en])), (aI, .inr (5, [.int iw, .int io, .int id, .int ia, .int ib, .int ii, .int is, .int iu])), (aZ, .inr (0, [.ref aM, .ref aS, .ref aQ]))]) ⟨hx, hb, hml, hown, hB⟩ (c_Acc_canUpdate l D aI iw io id ia ib ii is iu aI) yl_Acc_canUpdate mw_609 hK hN hP hD hS hA [] [6] [0, 1, 2, 3, 4, 5, 7] [0, 1, 2, 3, 4, 5, 7, 6] rfl rfl rfl rfl (by decide +kernel) rfl hl.1 rfl (Nat.le_of_ble_eq_true rfl) ⟨Nat.le_of_ble_eq_true rfl, Nat.le_of_ble_eq_true rfl⟩ d_Acc_runs_21 ⟨Nat.le_of_ble_eq_true rfl, Nat.le_of_ble_eq_true rfl⟩ (fun H locs hP hD hS => ?_)
      refine lv_if_ne (tgt := 29) hx hb d_Acc_runs_24 (by decide) (fun (h9 : ¬ (f_Acc_canUpdate io id ia) = (0 : Int32)) => ?_) (fun (h9 : (f_Acc_canUpdate io id ia) = (0 : Int32)) => ?_)
      · refine lv_aload_n hx hb d_Acc_runs_29 rfl (lv_at hl 0 rfl) ?_
        refine va_get (D := D) (ci := 0) (v := .ref aS) (C := "MappedProcessor$Accesses") (T := T_Acc) (N := 3) hx hb hB iw_Acc hown hK hP 7 rfl rfl 1 (by decide) (hB _ mw_200) (fun _ h9 => h9) rfl d_Acc_runs_30 ?_
        refine lv_aload_n hx hb d_Acc_runs_33 rfl (lv_at hl 1 rfl) ?_
        refine va_get (D := D) (ci := 5) (v := .int ia) (C := "MappedProcessor$Instruction") (T := T_Ins) (N := 8) hx hb hB iw_Ins hown hK hP 6 rfl rfl 3 (by decide) (hB _ mw_100) (fun _ h9 => h9) rfl d_Acc_runs_34 ?_
        refine k_cVi (As := [.int ia]) (rest := []) (wr := [(aM, .inr (8, [.ref aW])), (aW, .inl (cW, 16384, .inl w)), (aQ, .inr (7, [.ref aM, .ref aS, .int en])), (aI, .inr (5, [.int iw, .int io, .int id, .int ia, .int ib, .int ii, .int is, .int iu])), (aZ, .inr (0, [.ref aM, .ref aS, .ref aQ]))]) (wj := [(aM, .inr (8, [.ref aW])), (aW, .inl (cW, 16384, .inl w)), (aS, .inr (9, [.ref aG, .ref aX, .int nx, .int lt, .int sm, .int ex])), (aG, .inl (cG, 32, .inl g)), (aX, .inl (cX, 64, .inl sp)), (aQ, .inr (7, [.ref aM, .ref aS, .int en])), (aI, .inr (5, [.int iw, .int io, .int id, .int ia, .int ib, .int ii, .int is, .int iu])), (aZ, .inr (0, [.ref aM, .ref aS, .ref aQ]))]) ⟨hx, hb, hml, hown, hB⟩ (c_Sta_registerOrZero l D aS aG aX cG cX g sp nx lt sm ex ia) yl_Sta_registerOrZero mw_563 hK hN hP hD hS hA [1, 2] [2, 3, 4] [0, 1, 5, 6, 7] [0, 1, 5, 6, 7, 2, 3, 4] rfl rfl rfl rfl (by decide +kernel) 0 rfl rfl rfl rfl hl.1 rfl (Nat.le_of_ble_eq_true rfl) ⟨Nat.le_of_ble_eq_true rfl, Nat.le_of_ble_eq_true rfl⟩ d_Acc_runs_37 ⟨Nat.le_of_ble_eq_true rfl, Nat.le_of_ble_eq_true rfl⟩ (fun H locs hP hD hS => ?_)
        refine lv_aload_n hx hb d_Acc_runs_40 rfl (lv_at hl 1 rfl) ?_
        refine va_get (D := D) (ci := 5) (v := .int is) (C := "MappedProcessor$Instruction") (T := T_Ins) (N := 8) hx hb hB iw_Ins hown hK hP 6 rfl rfl 6 (by decide) (hB _ mw_118) (fun _ h9 => h9) rfl d_Acc_runs_41 ?_
        refine lv_iadd hx hb d_Acc_runs_44 ?_
        refine lv_istore_n (lv' := [(2, .int ((f_Sta_registerOrZero ia g) + is)), (0, .ref aZ), (1, .ref aI)]) hx hb d_Acc_runs_45 rfl hl (by decide) rfl (fun ls hl => ?_)
        refine lv_aload_n hx hb d_Acc_runs_46 rfl (lv_at hl 1 rfl) ?_
        refine lv_aload_n hx hb d_Acc_runs_47 rfl (lv_at hl 2 rfl) ?_
        refine va_get (D := D) (ci := 5) (v := .int io) (C := "MappedProcessor$Instruction") (T := T_Ins) (N := 8) hx hb hB iw_Ins hown hK hP 6 rfl rfl 1 (by decide) (hB _ mw_84) (fun _ h9 => h9) rfl d_Acc_runs_48 ?_
        refine lv_aload_n hx hb d_Acc_runs_51 rfl (lv_at hl 2 rfl) ?_
        refine va_get (D := D) (ci := 5) (v := .int id) (C := "MappedProcessor$Instruction") (T := T_Ins) (N := 8) hx hb hB iw_Ins hown hK hP 6 rfl rfl 2 (by decide) (hB _ mw_93) (fun _ h9 => h9) rfl d_Acc_runs_52 ?_
        refine lv_iload_n hx hb d_Acc_runs_55 rfl (lv_at hl 0 rfl) ?_
        let t10 := (f_Acc_moves io id ((f_Sta_registerOrZero ia g) + is) w g sp nx lt ex en)
        refine k_cVi (As := [.int io, .int id, .int ((f_Sta_registerOrZero ia g) + is)]) (rest := []) (wr := [(aI, .inr (5, [.int iw, .int io, .int id, .int ia, .int ib, .int ii, .int is, .int iu]))]) (wj := [(aM, .inr (8, [.ref aW])), (aW, .inl (cW, 16384, .inl t10.2.1)), (aS, .inr (9, [.ref aG, .ref aX, .int t10.2.2.2.2.1, .int t10.2.2.2.2.2.1, .int sm, .int t10.2.2.2.2.2.2.1])), (aG, .inl (cG, 32, .inl t10.2.2.1)), (aX, .inl (cX, 64, .inl t10.2.2.2.1)), (aQ, .inr (7, [.ref aM, .ref aS, .int t10.2.2.2.2.2.2.2])), (aI, .inr (5, [.int iw, .int io, .int id, .int ia, .int ib, .int ii, .int is, .int iu])), (aZ, .inr (0, [.ref aM, .ref aS, .ref aQ]))]) ⟨hx, hb, hml, hown, hB⟩ (c_Acc_moves l D aM aW aS aG aX aQ aZ cW cG cX w g sp nx lt sm ex en io id ((f_Sta_registerOrZero ia g) + is)) yl_Acc_moves mw_565 hK hN hP hD hS hA [0, 1, 2] [0, 1, 2, 3, 4, 5, 7] [6] [1, 2, 3, 4, 5, 6, 0, 7] rfl rfl rfl rfl (by decide +kernel) 6 rfl rfl rfl rfl hl.1 rfl (Nat.le_of_ble_eq_true rfl) ⟨Nat.le_of_ble_eq_true rfl, Nat.le_of_ble_eq_true rfl⟩ d_Acc_runs_56 ⟨Nat.le_of_ble_eq_true rfl, Nat.le_of_ble_eq_true rfl⟩ (fun H locs hP hD hS => ?_)
        refine lv_if_eq (tgt := 84) hx hb d_Acc_runs_59 (by decide) (fun (h14 : t10.1 = (0 : Int32)) => ?_) (fun (h14 : ¬ t10.1 = (0 : Int32)) => ?_)
        · refine lv_iconst (v := (1 : Int32)) hx hb d_Acc_runs_84 (by decide) ?_
          have ef : f_Acc_runs w g sp nx lt ex en io id ia is = ((1 : Int32), t10.2.1, t10.2.2.1, t10.2.2.2.1, t10.2.2.2.2.1, t10.2.2.2.2.2.1, t10.2.2.2.2.2.2.1, t10.2.2.2.2.2.2.2) := by unfold f_Acc_runs; try dsimp only; rw [if_neg h1, if_neg h2, if_neg h9, if_pos h14]
          exact k_zret hx hb hr hlocks hK hP hD hS [0, 1, 2, 3, 4, 5, 6, 7] rfl (by rw [ef] <;> rfl) (by rw [ef] <;> rfl) nb1 d_Acc_runs_85
        · refine lv_aload_n hx hb d_Acc_runs_62 rfl (lv_at hl 2 rfl) ?_
          refine va_get (D := D) (ci := 5) (v := .int io) (C := "MappedProcessor$Instruction") (T := T_Ins) (N := 8) hx hb hB iw_Ins hown hK hP 6 rfl rfl 1 (by decide) (hB _ mw_84) (fun _ h9 => h9) rfl d_Acc_runs_63 ?_
          refine k_cSi (As := [.int io]) (rest := []) (wr := [(aM, .inr (8, [.ref aW])), (aW, .inl (cW, 16384, .inl t10.2.1)), (aS, .inr (9, [.ref aG, .ref aX, .int t10.2.2.2.2.1, .int t10.2.2.2.2.2.1, .int sm, .int t10.2.2.2.2.2.2.1])), (aG, .inl (cG, 32, .inl t10.2.2.1)), (aX, .inl (cX, 64, .inl t10.2.2.2.1)), (aQ, .inr (7, [.ref aM, .ref aS, .int t10.2.2.2.2.2.2.2])), (aI, .inr (5, [.int iw, .int io, .int id, .int ia, .int ib, .int ii, .int is, .int iu])), (aZ, .inr (0, [.ref aM, .ref aS, .ref aQ]))]) (wj := [(aM, .inr (8, [.ref aW])), (aW, .inl (cW, 16384, .inl t10.2.1)), (aS, .inr (9, [.ref aG, .ref aX, .int t10.2.2.2.2.1, .int t10.2.2.2.2.2.1, .int sm, .int t10.2.2.2.2.2.2.1])), (aG, .inl (cG, 32, .inl t10.2.2.1)), (aX, .inl (cX, 64, .inl t10.2.2.2.1)), (aQ, .inr (7, [.ref aM, .ref aS, .int t10.2.2.2.2.2.2.2])), (aI, .inr (5, [.int iw, .int io, .int id, .int ia, .int ib, .int ii, .int is, .int iu])), (aZ, .inr (0, [.ref aM, .ref aS, .ref aQ]))]) ⟨hx, hb, hml, hown, hB⟩ (c_Acc_updates l D io) yl_Acc_updates mw_606 hK hN hP hD hS hA [] [] [0, 1, 2, 3, 4, 5, 6, 7] [0, 1, 2, 3, 4, 5, 6, 7] rfl rfl rfl rfl (by decide +kernel) rfl hl.1 rfl (Nat.le_of_ble_eq_true rfl) ⟨Nat.le_of_ble_eq_true rfl, Nat.le_of_ble_eq_true rfl⟩ d_Acc_runs_66 ⟨Nat.le_of_ble_eq_true rfl, Nat.le_of_ble_eq_true rfl⟩ (fun H locs hP hD hS => ?_)
          refine lv_if_eq (tgt := 84) hx hb d_Acc_runs_69 (by decide) (fun (h15 : (f_Acc_updates io) = (0 : Int32)) => ?_) (fun (h15 : ¬ (f_Acc_updates io) = (0 : Int32)) => ?_)
          · exact absurd h15 h2
          refine lv_aload_n hx hb d_Acc_runs_72 rfl (lv_at hl 1 rfl) ?_
          refine va_get (D := D) (ci := 0) (v := .ref aS) (C := "MappedProcessor$Accesses") (T := T_Acc) (N := 3) hx hb hB iw_Acc hown hK hP 7 rfl rfl 1 (by decide) (hB _ mw_200) (fun _ h9 => h9) rfl d_Acc_runs_73 ?_
          refine lv_aload_n hx hb d_Acc_runs_76 rfl (lv_at hl 2 rfl) ?_
          refine va_get (D := D) (ci := 5) (v := .int ia) (C := "MappedProcessor$Instruction") (T := T_Ins) (N := 8) hx hb hB iw_Ins hown hK hP 6 rfl rfl 3 (by decide) (hB _ mw_100) (fun _ h9 => h9) rfl d_Acc_runs_77 ?_
          refine lv_iload_n hx hb d_Acc_runs_80 rfl (lv_at hl 0 rfl) ?_
          refine k_cVv (As := [.int ia, .int ((f_Sta_registerOrZero ia g) + is)]) (rest := []) (wr := [(aM, .inr (8, [.ref aW])), (aW, .inl (cW, 16384, .inl t10.2.1)), (aQ, .inr (7, [.ref aM, .ref aS, .int t10.2.2.2.2.2.2.2])), (aI, .inr (5, [.int iw, .int io, .int id, .int ia, .int ib, .int ii, .int is, .int iu])), (aZ, .inr (0, [.ref aM, .ref aS, .ref aQ]))]) (wj := [(aM, .inr (8, [.ref aW])), (aW, .inl (cW, 16384, .inl t10.2.1)), (aS, .inr (9, [.ref aG, .ref aX, .int t10.2.2.2.2.1, .int t10.2.2.2.2.2.1, .int sm, .int t10.2.2.2.2.2.2.1])), (aG, .inl (cG, 32, .inl (f_Sta_keepRegister ia ((f_Sta_registerOrZero ia g) + is) t10.2.2.1))), (aX, .inl (cX, 64, .inl t10.2.2.2.1)), (aQ, .inr (7, [.ref aM, .ref aS, .int t10.2.2.2.2.2.2.2])), (aI, .inr (5, [.int iw, .int io, .int id, .int ia, .int ib, .int ii, .int is, .int iu])), (aZ, .inr (0, [.ref aM, .ref aS, .ref aQ]))]) ⟨hx, hb, hml, hown, hB⟩ (c_Sta_keepRegister l D aS aG aX cG cX t10.2.2.1 t10.2.2.2.1 t10.2.2.2.2.1 t10.2.2.2.2.2.1 sm t10.2.2.2.2.2.2.1 ia ((f_Sta_registerOrZero ia g) + is)) yl_Sta_keepRegister mw_601 hK hN hP hD hS hA [1, 2] [2, 3, 4] [0, 1, 5, 6, 7] [0, 1, 5, 6, 7, 2, 3, 4] rfl rfl rfl rfl (by decide +kernel) 0 rfl rfl rfl rfl hl.1 rfl (Nat.le_of_ble_eq_true rfl) ⟨Nat.le_of_ble_eq_true rfl, Nat.le_of_ble_eq_true rfl⟩ d_Acc_runs_81 ⟨Nat.le_of_ble_eq_true rfl, Nat.le_of_ble_eq_true rfl⟩ (fun H locs hP hD hS => ?_)
          refine lv_iconst (v := (1 : Int32)) hx hb d_Acc_runs_84 (by decide) ?_
          have ef : f_Acc_runs w g sp nx lt ex en io id ia is = ((1 : Int32), t10.2.1, (f_Sta_keepRegister ia ((f_Sta_registerOrZero ia g) + is) t10.2.2.1), t10.2.2.2.1, t10.2.2.2.2.1, t10.2.2.2.2.2.1, t10.2.2.2.2.2.2.1, t10.2.2.2.2.2.2.2) := by unfold f_Acc_runs; try dsimp only; rw [if_neg h1, if_neg h2, if_neg h9, if_neg h14]
          exact k_zret hx hb hr hlocks hK hP hD hS [0, 1, 2, 3, 4, 5, 6, 7] rfl (by rw [ef] <;> rfl) (by rw [ef] <;> rfl) nb1 d_Acc_runs_85
      · refine lv_iconst (v := (0 : Int32)) hx hb d_Acc_runs_27 (by decide) ?_
        have ef : f_Acc_runs w g sp nx lt ex en io id ia is = ((0 : Int32), w, g, sp, nx, lt, ex, en) := by unfold f_Acc_runs; try dsimp only; rw [if_neg h1, if_neg h2, if_pos h9]
        exact k_zret hx hb hr hlocks hK hP hD hS [0, 1, 2, 3, 4, 5, 6, 7] rfl (by rw [ef] <;> rfl) (by rw [ef] <;> rfl) nb0 d_Acc_runs_28
