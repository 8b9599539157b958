/-! MappedProcessor$Comparisons.trap(III)V -/
theorem d_Cmp_trap_0 : decode b_Cmp_trap 0 = .ok (.iload_n 2, 1) := by decide +kernel
theorem d_Cmp_trap_1 : decode b_Cmp_trap 1 = .ok (.iload_n 3, 1) := by decide +kernel
theorem d_Cmp_trap_2 : decode b_Cmp_trap 2 = .ok (.invokestatic 53, 3) := by decide +kernel
theorem d_Cmp_trap_5 : decode b_Cmp_trap 5 = .ok (.istore 4, 2) := by decide +kernel
theorem d_Cmp_trap_7 : decode b_Cmp_trap 7 = .ok (.iload_n 2, 1) := by decide +kernel
theorem d_Cmp_trap_8 : decode b_Cmp_trap 8 = .ok (.iload_n 3, 1) := by decide +kernel
theorem d_Cmp_trap_9 : decode b_Cmp_trap 9 = .ok (.invokestatic 43, 3) := by decide +kernel
theorem d_Cmp_trap_12 : decode b_Cmp_trap 12 = .ok (.istore 5, 2) := by decide +kernel
theorem d_Cmp_trap_14 : decode b_Cmp_trap 14 = .ok (.iload_n 1, 1) := by decide +kernel
theorem d_Cmp_trap_15 : decode b_Cmp_trap 15 = .ok (.bipush 16, 2) := by decide +kernel
theorem d_Cmp_trap_17 : decode b_Cmp_trap 17 = .ok (.iand, 1) := by decide +kernel
theorem d_Cmp_trap_18 : decode b_Cmp_trap 18 = .ok (.ifCond .eq 8, 3) := by decide +kernel
theorem d_Cmp_trap_21 : decode b_Cmp_trap 21 = .ok (.iload 4, 2) := by decide +kernel
theorem d_Cmp_trap_23 : decode b_Cmp_trap 23 = .ok (.ifCond .lt 48, 3) := by decide +kernel
theorem d_Cmp_trap_26 : decode b_Cmp_trap 26 = .ok (.iload_n 1, 1) := by decide +kernel
theorem d_Cmp_trap_27 : decode b_Cmp_trap 27 = .ok (.bipush 8, 2) := by decide +kernel
theorem d_Cmp_trap_29 : decode b_Cmp_trap 29 = .ok (.iand, 1) := by decide +kernel
theorem d_Cmp_trap_30 : decode b_Cmp_trap 30 = .ok (.ifCond .eq 8, 3) := by decide +kernel
theorem d_Cmp_trap_33 : decode b_Cmp_trap 33 = .ok (.iload 4, 2) := by decide +kernel
theorem d_Cmp_trap_35 : decode b_Cmp_trap 35 = .ok (.ifCond .gt 36, 3) := by decide +kernel
theorem d_Cmp_trap_38 : decode b_Cmp_trap 38 = .ok (.iload_n 1, 1) := by decide +kernel
theorem d_Cmp_trap_39 : decode b_Cmp_trap 39 = .ok (.iconst 4, 1) := by decide +kernel
theorem d_Cmp_trap_40 : decode b_Cmp_trap 40 = .ok (.iand, 1) := by decide +kernel
theorem d_Cmp_trap_41 : decode b_Cmp_trap 41 = .ok (.ifCond .eq 8, 3) := by decide +kernel
theorem d_Cmp_trap_44 : decode b_Cmp_trap 44 = .ok (.iload 4, 2) := by decide +kernel
theorem d_Cmp_trap_46 : decode b_Cmp_trap 46 = .ok (.ifCond .eq 25, 3) := by decide +kernel
theorem d_Cmp_trap_49 : decode b_Cmp_trap 49 = .ok (.iload_n 1, 1) := by decide +kernel
theorem d_Cmp_trap_50 : decode b_Cmp_trap 50 = .ok (.iconst 2, 1) := by decide +kernel
theorem d_Cmp_trap_51 : decode b_Cmp_trap 51 = .ok (.iand, 1) := by decide +kernel
theorem d_Cmp_trap_52 : decode b_Cmp_trap 52 = .ok (.ifCond .eq 8, 3) := by decide +kernel
theorem d_Cmp_trap_55 : decode b_Cmp_trap 55 = .ok (.iload 5, 2) := by decide +kernel
theorem d_Cmp_trap_57 : decode b_Cmp_trap 57 = .ok (.ifCond .lt 14, 3) := by decide +kernel
theorem d_Cmp_trap_60 : decode b_Cmp_trap 60 = .ok (.iload_n 1, 1) := by decide +kernel
theorem d_Cmp_trap_61 : decode b_Cmp_trap 61 = .ok (.iconst 1, 1) := by decide +kernel
theorem d_Cmp_trap_62 : decode b_Cmp_trap 62 = .ok (.iand, 1) := by decide +kernel
theorem d_Cmp_trap_63 : decode b_Cmp_trap 63 = .ok (.ifCond .eq 12, 3) := by decide +kernel
theorem d_Cmp_trap_66 : decode b_Cmp_trap 66 = .ok (.iload 5, 2) := by decide +kernel
theorem d_Cmp_trap_68 : decode b_Cmp_trap 68 = .ok (.ifCond .le 7, 3) := by decide +kernel
theorem d_Cmp_trap_71 : decode b_Cmp_trap 71 = .ok (.iconst 1, 1) := by decide +kernel
theorem d_Cmp_trap_72 : decode b_Cmp_trap 72 = .ok (.goto 4, 3) := by decide +kernel
theorem d_Cmp_trap_75 : decode b_Cmp_trap 75 = .ok (.iconst 0, 1) := by decide +kernel
theorem d_Cmp_trap_76 : decode b_Cmp_trap 76 = .ok (.istore 6, 2) := by decide +kernel
theorem d_Cmp_trap_78 : decode b_Cmp_trap 78 = .ok (.iload 6, 2) := by decide +kernel
theorem d_Cmp_trap_80 : decode b_Cmp_trap 80 = .ok (.ifCond .eq 15, 3) := by decide +kernel
theorem d_Cmp_trap_83 : decode b_Cmp_trap 83 = .ok (.aload_n 0, 1) := by decide +kernel
theorem d_Cmp_trap_84 : decode b_Cmp_trap 84 = .ok (.getfield 9, 3) := by decide +kernel
theorem d_Cmp_trap_87 : decode b_Cmp_trap 87 = .ok (.sipush 1792, 3) := by decide +kernel
theorem d_Cmp_trap_90 : decode b_Cmp_trap 90 = .ok (.ldc 62, 2) := by decide +kernel
theorem d_Cmp_trap_92 : decode b_Cmp_trap 92 = .ok (.invokevirtual 63, 3) := by decide +kernel
theorem d_Cmp_trap_95 : decode b_Cmp_trap 95 = .ok (.return_, 1) := by decide +kernel
def f_Cmp_trap (p0 : Int32) (p1 : Int32) (p2 : Int32) (sp : Nat → Int32) (nx : Int32) (lt : Int32) (ex : Int32) : (Nat → Int32) × Int32 × Int32 × Int32 :=
  if (if (p0 &&& (16 : Int32)) = (0 : Int32) then (if (p0 &&& (8 : Int32)) = (0 : Int32) then (if (p0 &&& (4 : Int32)) = (0 : Int32) then (if (p0 &&& (2 : Int32)) = (0 : Int32) then (if (p0 &&& (1 : Int32)) = (0 : Int32) then (0 : Int32) else (if (f_Int_compareUnsigned p1 p2) ≤ (0 : Int32) then (0 : Int32) else (1 : Int32))) else (if (f_Int_compareUnsigned p1 p2) < (0 : Int32) then (1 : Int32) else (if (p0 &&& (1 : Int32)) = (0 : Int32) then (0 : Int32) else (if (f_Int_compareUnsigned p1 p2) ≤ (0 : Int32) then (0 : Int32) else (1 : Int32))))) else (if (f_Int_compare p1 p2) = (0 : Int32) then (1 : Int32) else (if (p0 &&& (2 : Int32)) = (0 : Int32) then (if (p0 &&& (1 : Int32)) = (0 : Int32) then (0 : Int32) else (if (f_Int_compareUnsigned p1 p2) ≤ (0 : Int32) then (0 : Int32) else (1 : Int32))) else (if (f_Int_compareUnsigned p1 p2) < (0 : Int32) then (1 : Int32) else (if (p0 &&& (1 : Int32)) = (0 : Int32) then (0 : Int32) else (if (f_Int_compareUnsigned p1 p2) ≤ (0 : Int32) then (0 : Int32) else (1 : Int32))))))) else (if (0 : Int32) < (f_Int_compare p1 p2) then (1 : Int32) else (if (p0 &&& (4 : Int32)) = (0 : Int32) then (if (p0 &&& (2 : Int32)) = (0 : Int32) then (if (p0 &&& (1 : Int32)) = (0 : Int32) then (0 : Int32) else (if (f_Int_compareUnsigned p1 p2) ≤ (0 : Int32) then (0 : Int32) else (1 : Int32))) else (if (f_Int_compareUnsigned p1 p2) < (0 : Int32) then (1 : Int32) else (if (p0 &&& (1 : Int32)) = (0 : Int32) then (0 : Int32) else (if (f_Int_compareUnsigned p1 p2) ≤ (0 : Int32) then (0 : Int32) else (1 : Int32))))) else (if (f_Int_compare p1 p2) = (0 : Int32) then (1 : Int32) else (if (p0 &&& (2 : Int32)) = (0 : Int32) then (if (p0 &&& (1 : Int32)) = (0 : Int32) then (0 : Int32) else (if (f_Int_compareUnsigned p1 p2) ≤ (0 : Int32) then (0 : Int32) else (1 : Int32))) else (if (f_Int_compareUnsigned p1 p2) < (0 : Int32) then (1 : Int32) else (if (p0 &&& (1 : Int32)) = (0 : Int32) then (0 : Int32) else (if (f_Int_compareUnsigned p1 p2) ≤ (0 : Int32) then (0 : Int32) else (1 : Int32))))))))) else (if (f_Int_compare p1 p2) < (0 : Int32) then (1 : Int32) else (if (p0 &&& (8 : Int32)) = (0 : Int32) then (if (p0 &&& (4 : Int32)) = (0 : Int32) then (if (p0 &&& (2 : Int32)) = (0 : Int32) then (if (p0 &&& (1 : Int32)) = (0 : Int32) then (0 : Int32) else (if (f_Int_compareUnsigned p1 p2) ≤ (0 : Int32) then (0 : Int32) else (1 : Int32))) else (if (f_Int_compareUnsigned p1 p2) < (0 : Int32) then (1 : Int32) else (if (p0 &&& (1 : Int32)) = (0 : Int32) then (0 : Int32) else (if (f_Int_compareUnsigned p1 p2) ≤ (0 : Int32) then (0 : Int32) else (1 : Int32))))) else (if (f_Int_compare p1 p2) = (0 : Int32) then (1 : Int32) else (if (p0 &&& (2 : Int32)) = (0 : Int32) then (if (p0 &&& (1 : Int32)) = (0 : Int32) then (0 : Int32) else (if (f_Int_compareUnsigned p1 p2) ≤ (0 : Int32) then (0 : Int32) else (1 : Int32))) else (if (f_Int_compareUnsigned p1 p2) < (0 : Int32) then (1 : Int32) else (if (p0 &&& (1 : Int32)) = (0 : Int32) then (0 : Int32) else (if (f_Int_compareUnsigned p1 p2) ≤ (0 : Int32) then (0 : Int32) else (1 : Int32))))))) else (if (0 : Int32) < (f_Int_compare p1 p2) then (1 : Int32) else (if (p0 &&& (4 : Int32)) = (0 : Int32) then (if (p0 &&& (2 : Int32)) = (0 : Int32) then (if (p0 &&& (1 : Int32)) = (0 : Int32) then (0 : Int32) else (if (f_Int_compareUnsigned p1 p2) ≤ (0 : Int32) then (0 : Int32) else (1 : Int32))) else (if (f_Int_compareUnsigned p1 p2) < (0 : Int32) then (1 : Int32) else (if (p0 &&& (1 : Int32)) = (0 : Int32) then (0 : Int32) else (if (f_Int_compareUnsigned p1 p2) ≤ (0 : Int32) then (0 : Int32) else (1 : Int32))))) else (if (f_Int_compare p1 p2) = (0 : Int32) then (1 : Int32) else (if (p0 &&& (2 : Int32)) = (0 : Int32) then (if (p0 &&& (1 : Int32)) = (0 : Int32) then (0 : Int32) else (if (f_Int_compareUnsigned p1 p2) ≤ (0 : Int32) then (0 : Int32) else (1 : Int32))) else (if (f_Int_compareUnsigned p1 p2) < (0 : Int32) then (1 : Int32) else (if (p0 &&& (1 : Int32)) = (0 : Int32) then (0 : Int32) else (if (f_Int_compareUnsigned p1 p2) ≤ (0 : Int32) then (0 : Int32) else (1 : Int32))))))))))) = (0 : Int32) then
    (sp, nx, lt, ex)
  else
    let t315 := (f_Sta_raise (1792 : Int32) (131072 : Int32) sp ex)
    (t315.1, t315.2.1, t315.2.2.1, t315.2.2.2)
set_option maxHeartbeats 4000000 in
set_option maxRecDepth 100000 in
theorem c_Cmp_trap (l : Launch) (D : va_G) (aS aG aX aC : Nat) (cG cX : ClassId) (g : Nat → Int32) (sp : Nat → Int32) (nx : Int32) (lt : Int32) (sm : Int32) (ex : Int32) (p0 : Int32) (p1 : Int32) (p2 : Int32) : kMv l y_Cmp_trap b_Cmp_trap 7 none 2 42 D kCl [(cG, .int), (cX, .int)] [.ref aC, .int p0, .int p1, .int p2] [(aS, .inr (9, [.ref aG, .ref aX, .int nx, .int lt, .int sm, .int ex])), (aG, .inl (cG, 32, .inl g)), (aX, .inl (cX, 64, .inl sp)), (aC, .inr (3, [.ref aS]))] [(aS, .inr (9, [.ref aG, .ref aX, .int (f_Cmp_trap p0 p1 p2 sp nx lt ex).2.1, .int (f_Cmp_trap p0 p1 p2 sp nx lt ex).2.2.1, .int sm, .int (f_Cmp_trap p0 p1 p2 sp nx lt ex).2.2.2])), (aG, .inl (cG, 32, .inl g)), (aX, .inl (cX, 64, .inl (f_Cmp_trap p0 p1 p2 sp nx lt ex).1)), (aC, .inr (3, [.ref aS]))] := by
  refine k_entry (Qc := fun A => kQv D kCl [(cG, .int), (cX, .int)] [(aS, .inr (9, [.ref aG, .ref aX, .int (f_Cmp_trap p0 p1 p2 sp nx lt ex).2.1, .int (f_Cmp_trap p0 p1 p2 sp nx lt ex).2.2.1, .int sm, .int (f_Cmp_trap p0 p1 p2 sp nx lt ex).2.2.2])), (aG, .inl (cG, 32, .inl g)), (aX, .inl (cX, 64, .inl (f_Cmp_trap p0 p1 p2 sp nx lt ex).1)), (aC, .inr (3, [.ref aS]))] A) (lv := [(0, .ref aC), (1, .int p0), (2, .int p1), (3, .int p2)]) (by decide) (Nat.le_of_ble_eq_true rfl) rfl ?_
  intro p e s m below meth c A ls hx hb hr hml hB hown hlocks hin hA hK hN hP hD hS hl
  have hown : s.vm.findClass "MappedProcessor$Comparisons" = some m.cls := hown
  refine lv_iload_n hx hb d_Cmp_trap_0 rfl (lv_at hl 2 rfl) ?_
  refine lv_iload_n hx hb d_Cmp_trap_1 rfl (lv_at hl 3 rfl) ?_
  refine k_cSi (As := [.int p1, .int p2]) (rest := []) (wr := [(aS, .inr (9, [.ref aG, .ref aX, .int nx, .int lt, .int sm, .int ex])), (aG, .inl (cG, 32, .inl g)), (aX, .inl (cX, 64, .inl sp)), (aC, .inr (3, [.ref aS]))]) (wj := [(aS, .inr (9, [.ref aG, .ref aX, .int nx, .int lt, .int sm, .int ex])), (aG, .inl (cG, 32, .inl g)), (aX, .inl (cX, 64, .inl sp)), (aC, .inr (3, [.ref aS]))]) ⟨hx, hb, hml, hown, hB⟩ (c_Int_compare l D p1 p2) yl_Int_compare mw_383 hK hN hP hD hS hA [] [] [0, 1, 2, 3] [0, 1, 2, 3] rfl rfl rfl rfl (by decide +kernel) rfl hl.1 rfl (Nat.le_of_ble_eq_true rfl) ⟨Nat.le_of_ble_eq_true rfl, Nat.le_of_ble_eq_true rfl⟩ d_Cmp_trap_2 ⟨Nat.le_of_ble_eq_true rfl, Nat.le_of_ble_eq_true rfl⟩ (fun H locs hP hD hS => ?_)
  refine lv_istore (lv' := [(4, .int (f_Int_compare p1 p2)), (0, .ref aC), (1, .int p0), (2, .int p1), (3, .int p2)]) hx hb d_Cmp_trap_5 hl (by decide) rfl (fun ls hl => ?_)
  refine lv_iload_n hx hb d_Cmp_trap_7 rfl (lv_at hl 3 rfl) ?_
  refine lv_iload_n hx hb d_Cmp_trap_8 rfl (lv_at hl 4 rfl) ?_
  refine k_cSi (As := [.int p1, .int p2]) (rest := []) (wr := [(aS, .inr (9, [.ref aG, .ref aX, .int nx, .int lt, .int sm, .int ex])), (aG, .inl (cG, 32, .inl g)), (aX, .inl (cX, 64, .inl sp)), (aC, .inr (3, [.ref aS]))]) (wj := [(aS, .inr (9, [.ref aG, .ref aX, .int nx, .int lt, .int sm, .int ex])), (aG, .inl (cG, 32, .inl g)), (aX, .inl (cX, 64, .inl sp)), (aC, .inr (3, [.ref aS]))]) ⟨hx, hb, hml, hown, hB⟩ (c_Int_compareUnsigned l D p1 p2) yl_Int_compareUnsigned mw_386 hK hN hP hD hS hA [] [] [0, 1, 2, 3] [0, 1, 2, 3] rfl rfl rfl rfl (by decide +kernel) rfl hl.1 rfl (Nat.le_of_ble_eq_true rfl) ⟨Nat.le_of_ble_eq_true rfl, Nat.le_of_ble_eq_true rfl⟩ d_Cmp_trap_9 ⟨Nat.le_of_ble_eq_true rfl, Nat.le_of_ble_eq_true rfl⟩ (fun H locs hP hD hS => ?_)
  refine lv_istore (lv' := [(5, .int (f_Int_compareUnsigned p1 p2)), (4, .int (f_Int_compare p1 p2)), (0, .ref aC), (1, .int p0), (2, .int p1), (3, .int p2)]) hx hb d_Cmp_trap_12 hl (by decide) rfl (fun ls hl => ?_)
  refine lv_iload_n hx hb d_Cmp_trap_14 rfl (lv_at hl 3 rfl) ?_
  refine lv_bipush (v := (16 : Int32)) hx hb d_Cmp_trap_15 (by decide) ?_
  refine lv_iand hx hb d_Cmp_trap_17 ?_
  refine k_join2 (c0 := (p0 &&& (16 : Int32)) = (0 : Int32)) (x1 := (if (p0 &&& (8 : Int32)) = (0 : Int32) then (if (p0 &&& (4 : Int32)) = (0 : Int32) then (if (p0 &&& (2 : Int32)) = (0 : Int32) then (if (p0 &&& (1 : Int32)) = (0 : Int32) then (0 : Int32) else (if (f_Int_compareUnsigned p1 p2) ≤ (0 : Int32) then (0 : Int32) else (1 : Int32))) else (if (f_Int_compareUnsigned p1 p2) < (0 : Int32) then (1 : Int32) else (if (p0 &&& (1 : Int32)) = (0 : Int32) then (0 : Int32) else (if (f_Int_compareUnsigned p1 p2) ≤ (0 : Int32) then (0 : Int32) else (1 : Int32))))) else (if (f_Int_compare p1 p2) = (0 : Int32) then (1 : Int32) else (if (p0 &&& (2 : Int32)) = (0 : Int32) then (if (p0 &&& (1 : Int32)) = (0 : Int32) then (0 : Int32) else (if (f_Int_compareUnsigned p1 p2) ≤ (0 : Int32) then (0 : Int32) else (1 : Int32))) else (if (f_Int_compareUnsigned p1 p2) < (0 : Int32) then (1 : Int32) else (if (p0 &&& (1 : Int32)) = (0 : Int32) then (0 : Int32) else (if (f_Int_compareUnsigned p1 p2) ≤ (0 : Int32) then (0 : Int32) else (1 : Int32))))))) else (if (0 : Int32) < (f_Int_compare p1 p2) then (1 : Int32) else (if (p0 &&& (4 : Int32)) = (0 : Int32) then (if (p0 &&& (2 : Int32)) = (0 : Int32) then (if (p0 &&& (1 : Int32)) = (0 : Int32) then (0 : Int32) else (if (f_Int_compareUnsigned p1 p2) ≤ (0 : Int32) then (0 : Int32) else (1 : Int32))) else (if (f_Int_compareUnsigned p1 p2) < (0 : Int32) then (1 : Int32) else (if (p0 &&& (1 : Int32)) = (0 : Int32) then (0 : Int32) else (if (f_Int_compareUnsigned p1 p2) ≤ (0 : Int32) then (0 : Int32) else (1 : Int32))))) else (if (f_Int_compare p1 p2) = (0 : Int32) then (1 : Int32) else (if (p0 &&& (2 : Int32)) = (0 : Int32) then (if (p0 &&& (1 : Int32)) = (0 : Int32) then (0 : Int32) else (if (f_Int_compareUnsigned p1 p2) ≤ (0 : Int32) then (0 : Int32) else (1 : Int32))) else (if (f_Int_compareUnsigned p1 p2) < (0 : Int32) then (1 : Int32) else (if (p0 &&& (1 : Int32)) = (0 : Int32) then (0 : Int32) else (if (f_Int_compareUnsigned p1 p2) ≤ (0 : Int32) then (0 : Int32) else (1 : Int32)))))))))) (x2 := (if (f_Int_compare p1 p2) < (0 : Int32) then (1 : Int32) else (if (p0 &&& (8 : Int32)) = (0 : Int32) then (if (p0 &&& (4 : Int32)) = (0 : Int32) then (if (p0 &&& (2 : Int32)) = (0 : Int32) then (if (p0 &&& (1 : Int32)) = (0 : Int32) then (0 : Int32) else (if (f_Int_compareUnsigned p1 p2) ≤ (0 : Int32) then (0 : Int32) else (1 : Int32))) else (if (f_Int_compareUnsigned p1 p2) < (0 : Int32) then (1 : Int32) else (if (p0 &&& (1 : Int32)) = (0 : Int32) then (0 : Int32) else (if (f_Int_compareUnsigned p1 p2) ≤ (0 : Int32) then (0 : Int32) else (1 : Int32))))) else (if (f_Int_compare p1 p2) = (0 : Int32) then (1 : Int32) else (if (p0 &&& (2 : Int32)) = (0 : Int32) then (if (p0 &&& (1 : Int32)) = (0 : Int32) then (0 : Int32) else (if (f_Int_compareUnsigned p1 p2) ≤ (0 : Int32) then (0 : Int32) else (1 : Int32))) else (if (f_Int_compareUnsigned p1 p2) < (0 : Int32) then (1 : Int32) else (if (p0 &&& (1 : Int32)) = (0 : Int32) then (0 : Int32) else (if (f_Int_compareUnsigned p1 p2) ≤ (0 : Int32) then (0 : Int32) else (1 : Int32))))))) else (if (0 : Int32) < (f_Int_compare p1 p2) then (1 : Int32) else (if (p0 &&& (4 : Int32)) = (0 : Int32) then (if (p0 &&& (2 : Int32)) = (0 : Int32) then (if (p0 &&& (1 : Int32)) = (0 : Int32) then (0 : Int32) else (if (f_Int_compareUnsigned p1 p2) ≤ (0 : Int32) then (0 : Int32) else (1 : Int32))) else (if (f_Int_compareUnsigned p1 p2) < (0 : Int32) then (1 : Int32) else (if (p0 &&& (1 : Int32)) = (0 : Int32) then (0 : Int32) else (if (f_Int_compareUnsigned p1 p2) ≤ (0 : Int32) then (0 : Int32) else (1 : Int32))))) else (if (f_Int_compare p1 p2) = (0 : Int32) then (1 : Int32) else (if (p0 &&& (2 : Int32)) = (0 : Int32) then (if (p0 &&& (1 : Int32)) = (0 : Int32) then (0 : Int32) else (if (f_Int_compareUnsigned p1 p2) ≤ (0 : Int32) then (0 : Int32) else (1 : Int32))) else (if (f_Int_compareUnsigned p1 p2) < (0 : Int32) then (1 : Int32) else (if (p0 &&& (1 : Int32)) = (0 : Int32) then (0 : Int32) else (if (f_Int_compareUnsigned p1 p2) ≤ (0 : Int32) then (0 : Int32) else (1 : Int32))))))))))) (rest := []) 76 ?_ (fun k2 k3 => ?_)
  rotate_left
  · refine lv_if_eq (tgt := 26) hx hb d_Cmp_trap_18 (by decide) (fun (h1 : (p0 &&& (16 : Int32)) = (0 : Int32)) => ?_) (fun (h1 : ¬ (p0 &&& (16 : Int32)) = (0 : Int32)) => ?_)
    · refine lv_iload_n hx hb d_Cmp_trap_26 rfl (lv_at hl 3 rfl) ?_
      refine lv_bipush (v := (8 : Int32)) hx hb d_Cmp_trap_27 (by decide) ?_
      refine lv_iand hx hb d_Cmp_trap_29 ?_
      refine k_join2 (c0 := (p0 &&& (8 : Int32)) = (0 : Int32)) (x1 := (if (p0 &&& (4 : Int32)) = (0 : Int32) then (if (p0 &&& (2 : Int32)) = (0 : Int32) then (if (p0 &&& (1 : Int32)) = (0 : Int32) then (0 : Int32) else (if (f_Int_compareUnsigned p1 p2) ≤ (0 : Int32) then (0 : Int32) else (1 : Int32))) else (if (f_Int_compareUnsigned p1 p2) < (0 : Int32) then (1 : Int32) else (if (p0 &&& (1 : Int32)) = (0 : Int32) then (0 : Int32) else (if (f_Int_compareUnsigned p1 p2) ≤ (0 : Int32) then (0 : Int32) else (1 : Int32))))) else (if (f_Int_compare p1 p2) = (0 : Int32) then (1 : Int32) else (if (p0 &&& (2 : Int32)) = (0 : Int32) then (if (p0 &&& (1 : Int32)) = (0 : Int32) then (0 : Int32) else (if (f_Int_compareUnsigned p1 p2) ≤ (0 : Int32) then (0 : Int32) else (1 : Int32))) else (if (f_Int_compareUnsigned p1 p2) < (0 : Int32) then (1 : Int32) else (if (p0 &&& (1 : Int32)) = (0 : Int32) then (0 : Int32) else (if (f_Int_compareUnsigned p1 p2) ≤ (0 : Int32) then (0 : Int32) else (1 : Int32)))))))) (x2 := (if (0 : Int32) < (f_Int_compare p1 p2) then (1 : Int32) else (if (p0 &&& (4 : Int32)) = (0 : Int32) then (if (p0 &&& (2 : Int32)) = (0 : Int32) then (if (p0 &&& (1 : Int32)) = (0 : Int32) then (0 : Int32) else (if (f_Int_compareUnsigned p1 p2) ≤ (0 : Int32) then (0 : Int32) else (1 : Int32))) else (if (f_Int_compareUnsigned p1 p2) < (0 : Int32) then (1 : Int32) else (if (p0 &&& (1 : Int32)) = (0 : Int32) then (0 : Int32) else (if (f_Int_compareUnsigned p1 p2) ≤ (0 : Int32) then (0 : Int32) else (1 : Int32))))) else (if (f_Int_compare p1 p2) = (0 : Int32) then (1 : Int32) else (if (p0 &&& (2 : Int32)) = (0 : Int32) then (if (p0 &&& (1 : Int32)) = (0 : Int32) then (0 : Int32) else (if (f_Int_compareUnsigned p1 p2) ≤ (0 : Int32) then (0 : Int32) else (1 : Int32))) else (if (f_Int_compareUnsigned p1 p2) < (0 : Int32) then (1 : Int32) else (if (p0 &&& (1 : Int32)) = (0 : Int32) then (0 : Int32) else (if (f_Int_compareUnsigned p1 p2) ≤ (0 : Int32) then (0 : Int32) else (1 : Int32))))))))) (rest := []) 76 ?_ (fun k5 k6 => ?_)
      rotate_left
      · refine lv_if_eq (tgt := 38) hx hb d_Cmp_trap_30 (by decide) (fun (h4 : (p0 &&& (8 : Int32)) = (0 : Int32)) => ?_) (fun (h4 : ¬ (p0 &&& (8 : Int32)) = (0 : Int32)) => ?_)
        · refine lv_iload_n hx hb d_Cmp_trap_38 rfl (lv_at hl 3 rfl) ?_
          refine lv_iconst (v := (4 : Int32)) hx hb d_Cmp_trap_39 (by decide) ?_
          refine lv_iand hx hb d_Cmp_trap_40 ?_
          refine k_join2 (c0 := (p0 &&& (4 : Int32)) = (0 : Int32)) (x1 := (if (p0 &&& (2 : Int32)) = (0 : Int32) then (if (p0 &&& (1 : Int32)) = (0 : Int32) then (0 : Int32) else (if (f_Int_compareUnsigned p1 p2) ≤ (0 : Int32) then (0 : Int32) else (1 : Int32))) else (if (f_Int_compareUnsigned p1 p2) < (0 : Int32) then (1 : Int32) else (if (p0 &&& (1 : Int32)) = (0 : Int32) then (0 : Int32) else (if (f_Int_compareUnsigned p1 p2) ≤ (0 : Int32) then (0 : Int32) else (1 : Int32)))))) (x2 := (if (f_Int_compare p1 p2) = (0 : Int32) then (1 : Int32) else (if (p0 &&& (2 : Int32)) = (0 : Int32) then (if (p0 &&& (1 : Int32)) = (0 : Int32) then (0 : Int32) else (if (f_Int_compareUnsigned p1 p2) ≤ (0 : Int32) then (0 : Int32) else (1 : Int32))) else (if (f_Int_compareUnsigned p1 p2) < (0 : Int32) then (1 : Int32) else (if (p0 &&& (1 : Int32)) = (0 : Int32) then (0 : Int32) else (if (f_Int_compareUnsigned p1 p2) ≤ (0 : Int32) then (0 : Int32) else (1 : Int32))))))) (rest := []) 76 ?_ (fun k8 k9 => ?_)
          rotate_left
          · refine lv_if_eq (tgt := 49) hx hb d_Cmp_trap_41 (by decide) (fun (h7 : (p0 &&& (4 : Int32)) = (0 : Int32)) => ?_) (fun (h7 : ¬ (p0 &&& (4 : Int32)) = (0 : Int32)) => ?_)
            · refine lv_iload_n hx hb d_Cmp_trap_49 rfl (lv_at hl 3 rfl) ?_
              refine lv_iconst (v := (2 : Int32)) hx hb d_Cmp_trap_50 (by decide) ?_
              refine lv_iand hx hb d_Cmp_trap_51 ?_
              refine k_join2 (c0 := (p0 &&& (2 : Int32)) = (0 : Int32)) (x1 := (if (p0 &&& (1 : Int32)) = (0 : Int32) then (0 : Int32) else (if (f_Int_compareUnsigned p1 p2) ≤ (0 : Int32) then (0 : Int32) else (1 : Int32)))) (x2 := (if (f_Int_compareUnsigned p1 p2) < (0 : Int32) then (1 : Int32) else (if (p0 &&& (1 : Int32)) = (0 : Int32) then (0 : Int32) else (if (f_Int_compareUnsigned p1 p2) ≤ (0 : Int32) then (0 : Int32) else (1 : Int32))))) (rest := []) 76 ?_ (fun k11 k12 => ?_)
              rotate_left
              · refine lv_if_eq (tgt := 60) hx hb d_Cmp_trap_52 (by decide) (fun (h10 : (p0 &&& (2 : Int32)) = (0 : Int32)) => ?_) (fun (h10 : ¬ (p0 &&& (2 : Int32)) = (0 : Int32)) => ?_)
                · refine lv_iload_n hx hb d_Cmp_trap_60 rfl (lv_at hl 3 rfl) ?_
                  refine lv_iconst (v := (1 : Int32)) hx hb d_Cmp_trap_61 (by decide) ?_
                  refine lv_iand hx hb d_Cmp_trap_62 ?_
                  refine k_join2 (c0 := (p0 &&& (1 : Int32)) = (0 : Int32)) (x1 := (0 : Int32)) (x2 := (if (f_Int_compareUnsigned p1 p2) ≤ (0 : Int32) then (0 : Int32) else (1 : Int32))) (rest := []) 76 ?_ (fun k14 k15 => ?_)
                  rotate_left
                  · refine lv_if_eq (tgt := 75) hx hb d_Cmp_trap_63 (by decide) (fun (h13 : (p0 &&& (1 : Int32)) = (0 : Int32)) => ?_) (fun (h13 : ¬ (p0 &&& (1 : Int32)) = (0 : Int32)) => ?_)
                    · refine lv_iconst (v := (0 : Int32)) hx hb d_Cmp_trap_75 (by decide) ?_
                      exact k14 h13
                    · refine lv_iload hx hb d_Cmp_trap_66 (lv_at hl 0 rfl) ?_
                      refine k_join2 (c0 := (f_Int_compareUnsigned p1 p2) ≤ (0 : Int32)) (x1 := (0 : Int32)) (x2 := (1 : Int32)) (rest := []) 76 ?_ (fun k17 k18 => ?_)
                      rotate_left
                      · refine lv_if_le (tgt := 75) hx hb d_Cmp_trap_68 (by decide) (fun (h16 : (f_Int_compareUnsigned p1 p2) ≤ (0 : Int32)) => ?_) (fun (h16 : ¬ (f_Int_compareUnsigned p1 p2) ≤ (0 : Int32)) => ?_)
                        · refine lv_iconst (v := (0 : Int32)) hx hb d_Cmp_trap_75 (by decide) ?_
                          exact k17 h16
                        · refine lv_iconst (v := (1 : Int32)) hx hb d_Cmp_trap_71 (by decide) ?_
                          refine lv_goto (tgt := 76) hx hb d_Cmp_trap_72 (by decide) ?_
                          exact k18 h16
                      exact k15 h13
                  exact k11 h10
                · refine lv_iload hx hb d_Cmp_trap_55 (lv_at hl 0 rfl) ?_
                  refine k_join2 (c0 := (f_Int_compareUnsigned p1 p2) < (0 : Int32)) (x1 := (1 : Int32)) (x2 := (if (p0 &&& (1 : Int32)) = (0 : Int32) then (0 : Int32) else (if (f_Int_compareUnsigned p1 p2) ≤ (0 : Int32) then (0 : Int32) else (1 : Int32)))) (rest := []) 76 ?_ (fun k24 k25 => ?_)
                  rotate_left
                  · refine lv_if_lt (tgt := 71) hx hb d_Cmp_trap_57 (by decide) (fun (h23 : (f_Int_compareUnsigned p1 p2) < (0 : Int32)) => ?_) (fun (h23 : ¬ (f_Int_compareUnsigned p1 p2) < (0 : Int32)) => ?_)
                    · refine lv_iconst (v := (1 : Int32)) hx hb d_Cmp_trap_71 (by decide) ?_
                      refine lv_goto (tgt := 76) hx hb d_Cmp_trap_72 (by decide) ?_
                      exact k24 h23
                    · refine lv_iload_n hx hb d_Cmp_trap_60 rfl (lv_at hl 3 rfl) ?_
                      refine lv_iconst (v := (1 : Int32)) hx hb d_Cmp_trap_61 (by decide) ?_
                      refine lv_iand hx hb d_Cmp_trap_62 ?_
                      refine k_join2 (c0 := (p0 &&& (1 : Int32)) = (0 : Int32)) (x1 := (0 : Int32)) (x2 := (if (f_Int_compareUnsigned p1 p2) ≤ (0 : Int32) then (0 : Int32) else (1 : Int32))) (rest := []) 76 ?_ (fun k27 k28 => ?_)
                      rotate_left
                      · refine lv_if_eq (tgt := 75) hx hb d_Cmp_trap_63 (by decide) (fun (h26 : (p0 &&& (1 : Int32)) = (0 : Int32)) => ?_) (fun (h26 : ¬ (p0 &&& (1 : Int32)) = (0 : Int32)) => ?_)
                        · refine lv_iconst (v := (0 : Int32)) hx hb d_Cmp_trap_75 (by decide) ?_
                          exact k27 h26
                        · refine lv_iload hx hb d_Cmp_trap_66 (lv_at hl 0 rfl) ?_
                          refine k_join2 (c0 := (f_Int_compareUnsigned p1 p2) ≤ (0 : Int32)) (x1 := (0 : Int32)) (x2 := (1 : Int32)) (rest := []) 76 ?_ (fun k30 k31 => ?_)
                          rotate_left
                          · refine lv_if_le (tgt := 75) hx hb d_Cmp_trap_68 (by decide) (fun (h29 : (f_Int_compareUnsigned p1 p2) ≤ (0 : Int32)) => ?_) (fun (h29 : ¬ (f_Int_compareUnsigned p1 p2) ≤ (0 : Int32)) => ?_)
                            · refine lv_iconst (v := (0 : Int32)) hx hb d_Cmp_trap_75 (by decide) ?_
                              exact k30 h29
                            · refine lv_iconst (v := (1 : Int32)) hx hb d_Cmp_trap_71 (by decide) ?_
                              refine lv_goto (tgt := 76) hx hb d_Cmp_trap_72 (by decide) ?_
                              exact k31 h29
                          exact k28 h26
                      exact k25 h23
                  exact k12 h10
              exact k8 h7
            · refine lv_iload hx hb d_Cmp_trap_44 (lv_at hl 1 rfl) ?_
              refine k_join2 (c0 := (f_Int_compare p1 p2) = (0 : Int32)) (x1 := (1 : Int32)) (x2 := (if (p0 &&& (2 : Int32)) = (0 : Int32) then (if (p0 &&& (1 : Int32)) = (0 : Int32) then (0 : Int32) else (if (f_Int_compareUnsigned p1 p2) ≤ (0 : Int32) then (0 : Int32) else (1 : Int32))) else (if (f_Int_compareUnsigned p1 p2) < (0 : Int32) then (1 : Int32) else (if (p0 &&& (1 : Int32)) = (0 : Int32) then (0 : Int32) else (if (f_Int_compareUnsigned p1 p2) ≤ (0 : Int32) then (0 : Int32) else (1 : Int32)))))) (rest := []) 76 ?_ (fun k41 k42 => ?_)
              rotate_left
              · refine lv_if_eq (tgt := 71) hx hb d_Cmp_trap_46 (by decide) (fun (h40 : (f_Int_compare p1 p2) = (0 : Int32)) => ?_) (fun (h40 : ¬ (f_Int_compare p1 p2) = (0 : Int32)) => ?_)
                · refine lv_iconst (v := (1 : Int32)) hx hb d_Cmp_trap_71 (by decide) ?_
                  refine lv_goto (tgt := 76) hx hb d_Cmp_trap_72 (by decide) ?_
                  exact k41 h40
                · refine lv_iload_n hx hb d_Cmp_trap_49 rfl (lv_at hl 3 rfl) ?_
                  refine lv_iconst (v := (2 : Int32)) hx hb d_Cmp_trap_50 (by decide) ?_
                  refine lv_iand hx hb d_Cmp_trap_51 ?_
                  refine k_join2 (c0 := (p0 &&& (2 : Int32)) = (0 : Int32)) (x1 := (if (p0 &&& (1 : Int32)) = (0 : Int32) then (0 : Int32) else (if (f_Int_compareUnsigned p1 p2) ≤ (0 : Int32) then (0 : Int32) else (1 : Int32)))) (x2 := (if (f_Int_compareUnsigned p1 p2) < (0 : Int32) then (1 : Int32) else (if (p0 &&& (1 : Int32)) = (0 : Int32) then (0 : Int32) else (if (f_Int_compareUnsigned p1 p2) ≤ (0 : Int32) then (0 : Int32) else (1 : Int32))))) (rest := []) 76 ?_ (fun k44 k45 => ?_)
                  rotate_left
                  · refine lv_if_eq (tgt := 60) hx hb d_Cmp_trap_52 (by decide) (fun (h43 : (p0 &&& (2 : Int32)) = (0 : Int32)) => ?_) (fun (h43 : ¬ (p0 &&& (2 : Int32)) = (0 : Int32)) => ?_)
                    · refine lv_iload_n hx hb d_Cmp_trap_60 rfl (lv_at hl 3 rfl) ?_
                      refine lv_iconst (v := (1 : Int32)) hx hb d_Cmp_trap_61 (by decide) ?_
                      refine lv_iand hx hb d_Cmp_trap_62 ?_
                      refine k_join2 (c0 := (p0 &&& (1 : Int32)) = (0 : Int32)) (x1 := (0 : Int32)) (x2 := (if (f_Int_compareUnsigned p1 p2) ≤ (0 : Int32) then (0 : Int32) else (1 : Int32))) (rest := []) 76 ?_ (fun k47 k48 => ?_)
                      rotate_left
                      · refine lv_if_eq (tgt := 75) hx hb d_Cmp_trap_63 (by decide) (fun (h46 : (p0 &&& (1 : Int32)) = (0 : Int32)) => ?_) (fun (h46 : ¬ (p0 &&& (1 : Int32)) = (0 : Int32)) => ?_)
                        · refine lv_iconst (v := (0 : Int32)) hx hb d_Cmp_trap_75 (by decide) ?_
                          exact k47 h46
                        · refine lv_iload hx hb d_Cmp_trap_66 (lv_at hl 0 rfl) ?_
                          refine k_join2 (c0 := (f_Int_compareUnsigned p1 p2) ≤ (0 : Int32)) (x1 := (0 : Int32)) (x2 := (1 : Int32)) (rest := []) 76 ?_ (fun k50 k51 => ?_)
                          rotate_left
                          · refine lv_if_le (tgt := 75) hx hb d_Cmp_trap_68 (by decide) (fun (h49 : (f_Int_compareUnsigned p1 p2) ≤ (0 : Int32)) => ?_) (fun (h49 : ¬ (f_Int_compareUnsigned p1 p2) ≤ (0 : Int32)) => ?_)
                            · refine lv_iconst (v := (0 : Int32)) hx hb d_Cmp_trap_75 (by decide) ?_
                              exact k50 h49
                            · refine lv_iconst (v := (1 : Int32)) hx hb d_Cmp_trap_71 (by decide) ?_
                              refine lv_goto (tgt := 76) hx hb d_Cmp_trap_72 (by decide) ?_
                              exact k51 h49
                          exact k48 h46
                      exact k44 h43
                    · refine lv_iload hx hb d_Cmp_trap_55 (lv_at hl 0 rfl) ?_
                      refine k_join2 (c0 := (f_Int_compareUnsigned p1 p2) < (0 : Int32)) (x1 := (1 : Int32)) (x2 := (if (p0 &&& (1 : Int32)) = (0 : Int32) then (0 : Int32) else (if (f_Int_compareUnsigned p1 p2) ≤ (0 : Int32) then (0 : Int32) else (1 : Int32)))) (rest := []) 76 ?_ (fun k57 k58 => ?_)
                      rotate_left
                      · refine lv_if_lt (tgt := 71) hx hb d_Cmp_trap_57 (by decide) (fun (h56 : (f_Int_compareUnsigned p1 p2) < (0 : Int32)) => ?_) (fun (h56 : ¬ (f_Int_compareUnsigned p1 p2) < (0 : Int32)) => ?_)
                        · refine lv_iconst (v := (1 : Int32)) hx hb d_Cmp_trap_71 (by decide) ?_
                          refine lv_goto (tgt := 76) hx hb d_Cmp_trap_72 (by decide) ?_
                          exact k57 h56
                        · refine lv_iload_n hx hb d_Cmp_trap_60 rfl (lv_at hl 3 rfl) ?_
                          refine lv_iconst (v := (1 : Int32)) hx hb d_Cmp_trap_61 (by decide) ?_
                          refine lv_iand hx hb d_Cmp_trap_62 ?_
                          refine k_join2 (c0 := (p0 &&& (1 : Int32)) = (0 : Int32)) (x1 := (0 : Int32)) (x2 := (if (f_Int_compareUnsigned p1 p2) ≤ (0 : Int32) then (0 : Int32) else (1 : Int32))) (rest := []) 76 ?_ (fun k60 k61 => ?_)
                          rotate_left
                          · refine lv_if_eq (tgt := 75) hx hb d_Cmp_trap_63 (by decide) (fun (h59 : (p0 &&& (1 : Int32)) = (0 : Int32)) => ?_) (fun (h59 : ¬ (p0 &&& (1 : Int32)) = (0 : Int32)) => ?_)
                            · refine lv_iconst (v := (0 : Int32)) hx hb d_Cmp_trap_75 (by decide) ?_
                              exact k60 h59
                            · refine lv_iload hx hb d_Cmp_trap_66 (lv_at hl 0 rfl) ?_
                              refine k_join2 (c0 := (f_Int_compareUnsigned p1 p2) ≤ (0 : Int32)) (x1 := (0 : Int32)) (x2 := (1 : Int32)) (rest := []) 76 ?_ (fun k63 k64 => ?_)
                              rotate_left
                              · refine lv_if_le (tgt := 75) hx hb d_Cmp_trap_68 (by decide) (fun (h62 : (f_Int_compareUnsigned p1 p2) ≤ (0 : Int32)) => ?_) (fun (h62 : ¬ (f_Int_compareUnsigned p1 p2) ≤ (0 : Int32)) => ?_)
                                · refine lv_iconst (v := (0 : Int32)) hx hb d_Cmp_trap_75 (by decide) ?_
                                  exact k63 h62
                                · refine lv_iconst (v := (1 : Int32)) hx hb d_Cmp_trap_71 (by decide) ?_
                                  refine lv_goto (tgt := 76) hx hb d_Cmp_trap_72 (by decide) ?_
                                  exact k64 h62
                              exact k61 h59
                          exact k58 h56
                      exact k45 h43
                  exact k42 h40
              exact k9 h7
          exact k5 h4
        · refine lv_iload hx hb d_Cmp_trap_33 (lv_at hl 1 rfl) ?_
          refine k_join2 (c0 := (0 : Int32) < (f_Int_compare p1 p2)) (x1 := (1 : Int32)) (x2 := (if (p0 &&& (4 : Int32)) = (0 : Int32) then (if (p0 &&& (2 : Int32)) = (0 : Int32) then (if (p0 &&& (1 : Int32)) = (0 : Int32) then (0 : Int32) else (if (f_Int_compareUnsigned p1 p2) ≤ (0 : Int32) then (0 : Int32) else (1 : Int32))) else (if (f_Int_compareUnsigned p1 p2) < (0 : Int32) then (1 : Int32) else (if (p0 &&& (1 : Int32)) = (0 : Int32) then (0 : Int32) else (if (f_Int_compareUnsigned p1 p2) ≤ (0 : Int32) then (0 : Int32) else (1 : Int32))))) else (if (f_Int_compare p1 p2) = (0 : Int32) then (1 : Int32) else (if (p0 &&& (2 : Int32)) = (0 : Int32) then (if (p0 &&& (1 : Int32)) = (0 : Int32) then (0 : Int32) else (if (f_Int_compareUnsigned p1 p2) ≤ (0 : Int32) then (0 : Int32) else (1 : Int32))) else (if (f_Int_compareUnsigned p1 p2) < (0 : Int32) then (1 : Int32) else (if (p0 &&& (1 : Int32)) = (0 : Int32) then (0 : Int32) else (if (f_Int_compareUnsigned p1 p2) ≤ (0 : Int32) then (0 : Int32) else (1 : Int32)))))))) (rest := []) 76 ?_ (fun k78 k79 => ?_)
          rotate_left
          · refine lv_if_gt (tgt := 71) hx hb d_Cmp_trap_35 (by decide) (fun (h77 : (0 : Int32) < (f_Int_compare p1 p2)) => ?_) (fun (h77 : ¬ (0 : Int32) < (f_Int_compare p1 p2)) => ?_)
            · refine lv_iconst (v := (1 : Int32)) hx hb d_Cmp_trap_71 (by decide) ?_
              refine lv_goto (tgt := 76) hx hb d_Cmp_trap_72 (by decide) ?_
              exact k78 h77
            · refine lv_iload_n hx hb d_Cmp_trap_38 rfl (lv_at hl 3 rfl) ?_
              refine lv_iconst (v := (4 : Int32)) hx hb d_Cmp_trap_39 (by decide) ?_
              refine lv_iand hx hb d_Cmp_trap_40 ?_
              refine k_join2 (c0 := (p0 &&& (4 : Int32)) = (0 : Int32)) (x1 := (if (p0 &&& (2 : Int32)) = (0 : Int32) then (if (p0 &&& (1 : Int32)) = (0 : Int32) then (0 : Int32) else (if (f_Int_compareUnsigned p1 p2) ≤ (0 : Int32) then (0 : Int32) else (1 : Int32))) else (if (f_Int_compareUnsigned p1 p2) < (0 : Int32) then (1 : Int32) else (if (p0 &&& (1 : Int32)) = (0 : Int32) then (0 : Int32) else (if (f_Int_compareUnsigned p1 p2) ≤ (0 : Int32) then (0 : Int32) else (1 : Int32)))))) (x2 := (if (f_Int_compare p1 p2) = (0 : Int32) then (1 : Int32) else (if (p0 &&& (2 : Int32)) = (0 : Int32) then (if (p0 &&& (1 : Int32)) = (0 : Int32) then (0 : Int32) else (if (f_Int_compareUnsigned p1 p2) ≤ (0 : Int32) then (0 : Int32) else (1 : Int32))) else (if (f_Int_compareUnsigned p1 p2) < (0 : Int32) then (1 : Int32) else (if (p0 &&& (1 : Int32)) = (0 : Int32) then (0 : Int32) else (if (f_Int_compareUnsigned p1 p2) ≤ (0 : Int32) then (0 : Int32) else (1 : Int32))))))) (rest := []) 76 ?_ (fun k81 k82 => ?_)
              rotate_left
              · refine lv_if_eq (tgt := 49) hx hb d_Cmp_trap_41 (by decide) (fun (h80 : (p0 &&& (4 : Int32)) = (0 : Int32)) => ?_) (fun (h80 : ¬ (p0 &&& (4 : Int32)) = (0 : Int32)) => ?_)
                · refine lv_iload_n hx hb d_Cmp_trap_49 rfl (lv_at hl 3 rfl) ?_
                  refine lv_iconst (v := (2 : Int32)) hx hb d_Cmp_trap_50 (by decide) ?_
                  refine lv_iand hx hb d_Cmp_trap_51 ?_
                  refine k_join2 (c0 := (p0 &&& (2 : Int32)) = (0 : Int32)) (x1 := (if (p0 &&& (1 : Int32)) = (0 : Int32) then (0 : Int32) else (if (f_Int_compareUnsigned p1 p2) ≤ (0 : Int32) then (0 : Int32) else (1 : Int32)))) (x2 := (if (f_Int_compareUnsigned p1 p2) < (0 : Int32) then (1 : Int32) else (if (p0 &&& (1 : Int32)) = (0 : Int32) then (0 : Int32) else (if (f_Int_compareUnsigned p1 p2) ≤ (0 : Int32) then (0 : Int32) else (1 : Int32))))) (rest := []) 76 ?_ (fun k84 k85 => ?_)
                  rotate_left
                  · refine lv_if_eq (tgt := 60) hx hb d_Cmp_trap_52 (by decide) (fun (h83 : (p0 &&& (2 : Int32)) = (0 : Int32)) => ?_) (fun (h83 : ¬ (p0 &&& (2 : Int32)) = (0 : Int32)) => ?_)
                    · refine lv_iload_n hx hb d_Cmp_trap_60 rfl (lv_at hl 3 rfl) ?_
                      refine lv_iconst (v := (1 : Int32)) hx hb d_Cmp_trap_61 (by decide) ?_
                      refine lv_iand hx hb d_Cmp_trap_62 ?_
                      refine k_join2 (c0 := (p0 &&& (1 : Int32)) = (0 : Int32)) (x1 := (0 : Int32)) (x2 := (if (f_Int_compareUnsigned p1 p2) ≤ (0 : Int32) then (0 : Int32) else (1 : Int32))) (rest := []) 76 ?_ (fun k87 k88 => ?_)
                      rotate_left
                      · refine lv_if_eq (tgt := 75) hx hb d_Cmp_trap_63 (by decide) (fun (h86 : (p0 &&& (1 : Int32)) = (0 : Int32)) => ?_) (fun (h86 : ¬ (p0 &&& (1 : Int32)) = (0 : Int32)) => ?_)
                        · refine lv_iconst (v := (0 : Int32)) hx hb d_Cmp_trap_75 (by decide) ?_
                          exact k87 h86
                        · refine lv_iload hx hb d_Cmp_trap_66 (lv_at hl 0 rfl) ?_
                          refine k_join2 (c0 := (f_Int_compareUnsigned p1 p2) ≤ (0 : Int32)) (x1 := (0 : Int32)) (x2 := (1 : Int32)) (rest := []) 76 ?_ (fun k90 k91 => ?_)
                          rotate_left
                          · refine lv_if_le (tgt := 75) hx hb d_Cmp_trap_68 (by decide) (fun (h89 : (f_Int_compareUnsigned p1 p2) ≤ (0 : Int32)) => ?_) (fun (h89 : ¬ (f_Int_compareUnsigned p1 p2) ≤ (0 : Int32)) => ?_)
                            · refine lv_iconst (v := (0 : Int32)) hx hb d_Cmp_trap_75 (by decide) ?_
                              exact k90 h89
                            · refine lv_iconst (v := (1 : Int32)) hx hb d_Cmp_trap_71 (by decide) ?_
                              refine lv_goto (tgt := 76) hx hb d_Cmp_trap_72 (by decide) ?_
                              exact k91 h89
                          exact k88 h86
                      exact k84 h83
                    · refine lv_iload hx hb d_Cmp_trap_55 (lv_at hl 0 rfl) ?_
                      refine k_join2 (c0 := (f_Int_compareUnsigned p1 p2) < (0 : Int32)) (x1 := (1 : Int32)) (x2 := (if (p0 &&& (1 : Int32)) = (0 : Int32) then (0 : Int32) else (if (f_Int_compareUnsigned p1 p2) ≤ (0 : Int32) then (0 : Int32) else (1 : Int32)))) (rest := []) 76 ?_ (fun k97 k98 => ?_)
                      rotate_left
                      · refine lv_if_lt (tgt := 71) hx hb d_Cmp_trap_57 (by decide) (fun (h96 : (f_Int_compareUnsigned p1 p2) < (0 : Int32)) => ?_) (fun (h96 : ¬ (f_Int_compareUnsigned p1 p2) < (0 : Int32)) => ?_)
                        · refine lv_iconst (v := (1 : Int32)) hx hb d_Cmp_trap_71 (by decide) ?_
                          refine lv_goto (tgt := 76) hx hb d_Cmp_trap_72 (by decide) ?_
                          exact k97 h96
                        · refine lv_iload_n hx hb d_Cmp_trap_60 rfl (lv_at hl 3 rfl) ?_
                          refine lv_iconst (v := (1 : Int32)) hx hb d_Cmp_trap_61 (by decide) ?_
                          refine lv_iand hx hb d_Cmp_trap_62 ?_
                          refine k_join2 (c0 := (p0 &&& (1 : Int32)) = (0 : Int32)) (x1 := (0 : Int32)) (x2 := (if (f_Int_compareUnsigned p1 p2) ≤ (0 : Int32) then (0 : Int32) else (1 : Int32))) (rest := []) 76 ?_ (fun k100 k101 => ?_)
                          rotate_left
                          · refine lv_if_eq (tgt := 75) hx hb d_Cmp_trap_63 (by decide) (fun (h99 : (p0 &&& (1 : Int32)) = (0 : Int32)) => ?_) (fun (h99 : ¬ (p0 &&& (1 : Int32)) = (0 : Int32)) => ?_)
                            · refine lv_iconst (v := (0 : Int32)) hx hb d_Cmp_trap_75 (by decide) ?_
                              exact k100 h99
                            · refine lv_iload hx hb d_Cmp_trap_66 (lv_at hl 0 rfl) ?_
                              refine k_join2 (c0 := (f_Int_compareUnsigned p1 p2) ≤ (0 : Int32)) (x1 := (0 : Int32)) (x2 := (1 : Int32)) (rest := []) 76 ?_ (fun k103 k104 => ?_)
                              rotate_left
                              · refine lv_if_le (tgt := 75) hx hb d_Cmp_trap_68 (by decide) (fun (h102 : (f_Int_compareUnsigned p1 p2) ≤ (0 : Int32)) => ?_) (fun (h102 : ¬ (f_Int_compareUnsigned p1 p2) ≤ (0 : Int32)) => ?_)
                                · refine lv_iconst (v := (0 : Int32)) hx hb d_Cmp_trap_75 (by decide) ?_
                                  exact k103 h102
                                · refine lv_iconst (v := (1 : Int32)) hx hb d_Cmp_trap_71 (by decide) ?_
                                  refine lv_goto (tgt := 76) hx hb d_Cmp_trap_72 (by decide) ?_
                                  exact k104 h102
                              exact k101 h99
                          exact k98 h96
                      exact k85 h83
                  exact k81 h80
                · refine lv_iload hx hb d_Cmp_trap_44 (lv_at hl 1 rfl) ?_
                  refine k_join2 (c0 := (f_Int_compare p1 p2) = (0 : Int32)) (x1 := (1 : Int32)) (x2 := (if (p0 &&& (2 : Int32)) = (0 : Int32) then (if (p0 &&& (1 : Int32)) = (0 : Int32) then (0 : Int32) else (if (f_Int_compareUnsigned p1 p2) ≤ (0 : Int32) then (0 : Int32) else (1 : Int32))) else (if (f_Int_compareUnsigned p1 p2) < (0 : Int32) then (1 : Int32) else (if (p0 &&& (1 : Int32)) = (0 : Int32) then (0 : Int32) else (if (f_Int_compareUnsigned p1 p2) ≤ (0 : Int32) then (0 : Int32) else (1 : Int32)))))) (rest := []) 76 ?_ (fun k114 k115 => ?_)
                  rotate_left
                  · refine lv_if_eq (tgt := 71) hx hb d_Cmp_trap_46 (by decide) (fun (h113 : (f_Int_compare p1 p2) = (0 : Int32)) => ?_) (fun (h113 : ¬ (f_Int_compare p1 p2) = (0 : Int32)) => ?_)
                    · refine lv_iconst (v := (1 : Int32)) hx hb d_Cmp_trap_71 (by decide) ?_
                      refine lv_goto (tgt := 76) hx hb d_Cmp_trap_72 (by decide) ?_
                      exact k114 h113
                    · refine lv_iload_n hx hb d_Cmp_trap_49 rfl (lv_at hl 3 rfl) ?_
                      refine lv_iconst (v := (2 : Int32)) hx hb d_Cmp_trap_50 (by decide) ?_
                      refine lv_iand hx hb d_Cmp_trap_51 ?_
                      refine k_join2 (c0 := (p0 &&& (2 : Int32)) = (0 : Int32)) (x1 := (if (p0 &&& (1 : Int32)) = (0 : Int32) then (0 : Int32) else (if (f_Int_compareUnsigned p1 p2) ≤ (0 : Int32) then (0 : Int32) else (1 : Int32)))) (x2 := (if (f_Int_compareUnsigned p1 p2) < (0 : Int32) then (1 : Int32) else (if (p0 &&& (1 : Int32)) = (0 : Int32) then (0 : Int32) else (if (f_Int_compareUnsigned p1 p2) ≤ (0 : Int32) then (0 : Int32) else (1 : Int32))))) (rest := []) 76 ?_ (fun k117 k118 => ?_)
                      rotate_left
                      · refine lv_if_eq (tgt := 60) hx hb d_Cmp_trap_52 (by decide) (fun (h116 : (p0 &&& (2 : Int32)) = (0 : Int32)) => ?_) (fun (h116 : ¬ (p0 &&& (2 : Int32)) = (0 : Int32)) => ?_)
                        · refine lv_iload_n hx hb d_Cmp_trap_60 rfl (lv_at hl 3 rfl) ?_
                          refine lv_iconst (v := (1 : Int32)) hx hb d_Cmp_trap_61 (by decide) ?_
                          refine lv_iand hx hb d_Cmp_trap_62 ?_
                          refine k_join2 (c0 := (p0 &&& (1 : Int32)) = (0 : Int32)) (x1 := (0 : Int32)) (x2 := (if (f_Int_compareUnsigned p1 p2) ≤ (0 : Int32) then (0 : Int32) else (1 : Int32))) (rest := []) 76 ?_ (fun k120 k121 => ?_)
                          rotate_left
                          · refine lv_if_eq (tgt := 75) hx hb d_Cmp_trap_63 (by decide) (fun (h119 : (p0 &&& (1 : Int32)) = (0 : Int32)) => ?_) (fun (h119 : ¬ (p0 &&& (1 : Int32)) = (0 : Int32)) => ?_)
                            · refine lv_iconst (v := (0 : Int32)) hx hb d_Cmp_trap_75 (by decide) ?_
                              exact k120 h119
                            · refine lv_iload hx hb d_Cmp_trap_66 (lv_at hl 0 rfl) ?_
                              refine k_join2 (c0 := (f_Int_compareUnsigned p1 p2) ≤ (0 : Int32)) (x1 := (0 : Int32)) (x2 := (1 : Int32)) (rest := []) 76 ?_ (fun k123 k124 => ?_)
                              rotate_left
                              · refine lv_if_le (tgt := 75) hx hb d_Cmp_trap_68 (by decide) (fun (h122 : (f_Int_compareUnsigned p1 p2) ≤ (0 : Int32)) => ?_) (fun (h122 : ¬ (f_Int_compareUnsigned p1 p2) ≤ (0 : Int32)) => ?_)
                                · refine lv_iconst (v := (0 : Int32)) hx hb d_Cmp_trap_75 (by decide) ?_
                                  exact k123 h122
                                · refine lv_iconst (v := (1 : Int32)) hx hb d_Cmp_trap_71 (by decide) ?_
                                  refine lv_goto (tgt := 76) hx hb d_Cmp_trap_72 (by decide) ?_
                                  exact k124 h122
                              exact k121 h119
                          exact k117 h116
                        · refine lv_iload hx hb d_Cmp_trap_55 (lv_at hl 0 rfl) ?_
                          refine k_join2 (c0 := (f_Int_compareUnsigned p1 p2) < (0 : Int32)) (x1 := (1 : Int32)) (x2 := (if (p0 &&& (1 : Int32)) = (0 : Int32) then (0 : Int32) else (if (f_Int_compareUnsigned p1 p2) ≤ (0 : Int32) then (0 : Int32) else (1 : Int32)))) (rest := []) 76 ?_ (fun k130 k131 => ?_)
                          rotate_left
                          · refine lv_if_lt (tgt := 71) hx hb d_Cmp_trap_57 (by decide) (fun (h129 : (f_Int_compareUnsigned p1 p2) < (0 : Int32)) => ?_) (fun (h129 : ¬ (f_Int_compareUnsigned p1 p2) < (0 : Int32)) => ?_)
                            · refine lv_iconst (v := (1 : Int32)) hx hb d_Cmp_trap_71 (by decide) ?_
                              refine lv_goto (tgt := 76) hx hb d_Cmp_trap_72 (by decide) ?_
                              exact k130 h129
                            · refine lv_iload_n hx hb d_Cmp_trap_60 rfl (lv_at hl 3 rfl) ?_
                              refine lv_iconst (v := (1 : Int32)) hx hb d_Cmp_trap_61 (by decide) ?_
                              refine lv_iand hx hb d_Cmp_trap_62 ?_
                              refine k_join2 (c0 := (p0 &&& (1 : Int32)) = (0 : Int32)) (x1 := (0 : Int32)) (x2 := (if (f_Int_compareUnsigned p1 p2) ≤ (0 : Int32) then (0 : Int32) else (1 : Int32))) (rest := []) 76 ?_ (fun k133 k134 => ?_)
                              rotate_left
                              · refine lv_if_eq (tgt := 75) hx hb d_Cmp_trap_63 (by decide) (fun (h132 : (p0 &&& (1 : Int32)) = (0 : Int32)) => ?_) (fun (h132 : ¬ (p0 &&& (1 : Int32)) = (0 : Int32)) => ?_)
                                · refine lv_iconst (v := (0 : Int32)) hx hb d_Cmp_trap_75 (by decide) ?_
                                  exact k133 h132
                                · refine lv_iload hx hb d_Cmp_trap_66 (lv_at hl 0 rfl) ?_
                                  refine k_join2 (c0 := (f_Int_compareUnsigned p1 p2) ≤ (0 : Int32)) (x1 := (0 : Int32)) (x2 := (1 : Int32)) (rest := []) 76 ?_ (fun k136 k137 => ?_)
                                  rotate_left
                                  · refine lv_if_le (tgt := 75) hx hb d_Cmp_trap_68 (by decide) (fun (h135 : (f_Int_compareUnsigned p1 p2) ≤ (0 : Int32)) => ?_) (fun (h135 : ¬ (f_Int_compareUnsigned p1 p2) ≤ (0 : Int32)) => ?_)
                                    · refine lv_iconst (v := (0 : Int32)) hx hb d_Cmp_trap_75 (by decide) ?_
                                      exact k136 h135
                                    · refine lv_iconst (v := (1 : Int32)) hx hb d_Cmp_trap_71 (by decide) ?_
                                      refine lv_goto (tgt := 76) hx hb d_Cmp_trap_72 (by decide) ?_
                                      exact k137 h135
                                  exact k134 h132
                              exact k131 h129
                          exact k118 h116
                      exact k115 h113
                  exact k82 h80
              exact k79 h77
          exact k6 h4
      exact k2 h1
    · refine lv_iload hx hb d_Cmp_trap_21 (lv_at hl 1 rfl) ?_
      refine k_join2 (c0 := (f_Int_compare p1 p2) < (0 : Int32)) (x1 := (1 : Int32)) (x2 := (if (p0 &&& (8 : Int32)) = (0 : Int32) then (if (p0 &&& (4 : Int32)) = (0 : Int32) then (if (p0 &&& (2 : Int32)) = (0 : Int32) then (if (p0 &&& (1 : Int32)) = (0 : Int32) then (0 : Int32) else (if (f_Int_compareUnsigned p1 p2) ≤ (0 : Int32) then (0 : Int32) else (1 : Int32))) else (if (f_Int_compareUnsigned p1 p2) < (0 : Int32) then (1 : Int32) else (if (p0 &&& (1 : Int32)) = (0 : Int32) then (0 : Int32) else (if (f_Int_compareUnsigned p1 p2) ≤ (0 : Int32) then (0 : Int32) else (1 : Int32))))) else (if (f_Int_compare p1 p2) = (0 : Int32) then (1 : Int32) else (if (p0 &&& (2 : Int32)) = (0 : Int32) then (if (p0 &&& (1 : Int32)) = (0 : Int32) then (0 : Int32) else (if (f_Int_compareUnsigned p1 p2) ≤ (0 : Int32) then (0 : Int32) else (1 : Int32))) else (if (f_Int_compareUnsigned p1 p2) < (0 : Int32) then (1 : Int32) else (if (p0 &&& (1 : Int32)) = (0 : Int32) then (0 : Int32) else (if (f_Int_compareUnsigned p1 p2) ≤ (0 : Int32) then (0 : Int32) else (1 : Int32))))))) else (if (0 : Int32) < (f_Int_compare p1 p2) then (1 : Int32) else (if (p0 &&& (4 : Int32)) = (0 : Int32) then (if (p0 &&& (2 : Int32)) = (0 : Int32) then (if (p0 &&& (1 : Int32)) = (0 : Int32) then (0 : Int32) else (if (f_Int_compareUnsigned p1 p2) ≤ (0 : Int32) then (0 : Int32) else (1 : Int32))) else (if (f_Int_compareUnsigned p1 p2) < (0 : Int32) then (1 : Int32) else (if (p0 &&& (1 : Int32)) = (0 : Int32) then (0 : Int32) else (if (f_Int_compareUnsigned p1 p2) ≤ (0 : Int32) then (0 : Int32) else (1 : Int32))))) else (if (f_Int_compare p1 p2) = (0 : Int32) then (1 : Int32) else (if (p0 &&& (2 : Int32)) = (0 : Int32) then (if (p0 &&& (1 : Int32)) = (0 : Int32) then (0 : Int32) else (if (f_Int_compareUnsigned p1 p2) ≤ (0 : Int32) then (0 : Int32) else (1 : Int32))) else (if (f_Int_compareUnsigned p1 p2) < (0 : Int32) then (1 : Int32) else (if (p0 &&& (1 : Int32)) = (0 : Int32) then (0 : Int32) else (if (f_Int_compareUnsigned p1 p2) ≤ (0 : Int32) then (0 : Int32) else (1 : Int32)))))))))) (rest := []) 76 ?_ (fun k155 k156 => ?_)
      rotate_left
      · refine lv_if_lt (tgt := 71) hx hb d_Cmp_trap_23 (by decide) (fun (h154 : (f_Int_compare p1 p2) < (0 : Int32)) => ?_) (fun (h154 : ¬ (f_Int_compare p1 p2) < (0 : Int32)) => ?_)
        · refine lv_iconst (v := (1 : Int32)) hx hb d_Cmp_trap_71 (by decide) ?_
          refine lv_goto (tgt := 76) hx hb d_Cmp_trap_72 (by decide) ?_
          exact k155 h154
        · refine lv_iload_n hx hb d_Cmp_trap_26 rfl (lv_at hl 3 rfl) ?_
          refine lv_bipush (v := (8 : Int32)) hx hb d_Cmp_trap_27 (by decide) ?_
          refine lv_iand hx hb d_Cmp_trap_29 ?_
          refine k_join2 (c0 := (p0 &&& (8 : Int32)) = (0 : Int32)) (x1 := (if (p0 &&& (4 : Int32)) = (0 : Int32) then (if (p0 &&& (2 : Int32)) = (0 : Int32) then (if (p0 &&& (1 : Int32)) = (0 : Int32) then (0 : Int32) else (if (f_Int_compareUnsigned p1 p2) ≤ (0 : Int32) then (0 : Int32) else (1 : Int32))) else (if (f_Int_compareUnsigned p1 p2) < (0 : Int32) then (1 : Int32) else (if (p0 &&& (1 : Int32)) = (0 : Int32) then (0 : Int32) else (if (f_Int_compareUnsigned p1 p2) ≤ (0 : Int32) then (0 : Int32) else (1 : Int32))))) else (if (f_Int_compare p1 p2) = (0 : Int32) then (1 : Int32) else (if (p0 &&& (2 : Int32)) = (0 : Int32) then (if (p0 &&& (1 : Int32)) = (0 : Int32) then (0 : Int32) else (if (f_Int_compareUnsigned p1 p2) ≤ (0 : Int32) then (0 : Int32) else (1 : Int32))) else (if (f_Int_compareUnsigned p1 p2) < (0 : Int32) then (1 : Int32) else (if (p0 &&& (1 : Int32)) = (0 : Int32) then (0 : Int32) else (if (f_Int_compareUnsigned p1 p2) ≤ (0 : Int32) then (0 : Int32) else (1 : Int32)))))))) (x2 := (if (0 : Int32) < (f_Int_compare p1 p2) then (1 : Int32) else (if (p0 &&& (4 : Int32)) = (0 : Int32) then (if (p0 &&& (2 : Int32)) = (0 : Int32) then (if (p0 &&& (1 : Int32)) = (0 : Int32) then (0 : Int32) else (if (f_Int_compareUnsigned p1 p2) ≤ (0 : Int32) then (0 : Int32) else (1 : Int32))) else (if (f_Int_compareUnsigned p1 p2) < (0 : Int32) then (1 : Int32) else (if (p0 &&& (1 : Int32)) = (0 : Int32) then (0 : Int32) else (if (f_Int_compareUnsigned p1 p2) ≤ (0 : Int32) then (0 : Int32) else (1 : Int32))))) else (if (f_Int_compare p1 p2) = (0 : Int32) then (1 : Int32) else (if (p0 &&& (2 : Int32)) = (0 : Int32) then (if (p0 &&& (1 : Int32)) = (0 : Int32) then (0 : Int32) else (if (f_Int_compareUnsigned p1 p2) ≤ (0 : Int32) then (0 : Int32) else (1 : Int32))) else (if (f_Int_compareUnsigned p1 p2) < (0 : Int32) then (1 : Int32) else (if (p0 &&& (1 : Int32)) = (0 : Int32) then (0 : Int32) else (if (f_Int_compareUnsigned p1 p2) ≤ (0 : Int32) then (0 : Int32) else (1 : Int32))))))))) (rest := []) 76 ?_ (fun k158 k159 => ?_)
          rotate_left
          · refine lv_if_eq (tgt := 38) hx hb d_Cmp_trap_30 (by decide) (fun (h157 : (p0 &&& (8 : Int32)) = (0 : Int32)) => ?_) (fun (h157 : ¬ (p0 &&& (8 : Int32)) = (0 : Int32)) => ?_)
            · refine lv_iload_n hx hb d_Cmp_trap_38 rfl (lv_at hl 3 rfl) ?_
              refine lv_iconst (v := (4 : Int32)) hx hb d_Cmp_trap_39 (by decide) ?_
              refine lv_iand hx hb d_Cmp_trap_40 ?_
              refine k_join2 (c0 := (p0 &&& (4 : Int32)) = (0 : Int32)) (x1 := (if (p0 &&& (2 : Int32)) = (0 : Int32) then (if (p0 &&& (1 : Int32)) = (0 : Int32) then (0 : Int32) else (if (f_Int_compareUnsigned p1 p2) ≤ (0 : Int32) then (0 : Int32) else (1 : Int32))) else (if (f_Int_compareUnsigned p1 p2) < (0 : Int32) then (1 : Int32) else (if (p0 &&& (1 : Int32)) = (0 : Int32) then (0 : Int32) else (if (f_Int_compareUnsigned p1 p2) ≤ (0 : Int32) then (0 : Int32) else (1 : Int32)))))) (x2 := (if (f_Int_compare p1 p2) = (0 : Int32) then (1 : Int32) else (if (p0 &&& (2 : Int32)) = (0 : Int32) then (if (p0 &&& (1 : Int32)) = (0 : Int32) then (0 : Int32) else (if (f_Int_compareUnsigned p1 p2) ≤ (0 : Int32) then (0 : Int32) else (1 : Int32))) else (if (f_Int_compareUnsigned p1 p2) < (0 : Int32) then (1 : Int32) else (if (p0 &&& (1 : Int32)) = (0 : Int32) then (0 : Int32) else (if (f_Int_compareUnsigned p1 p2) ≤ (0 : Int32) then (0 : Int32) else (1 : Int32))))))) (rest := []) 76 ?_ (fun k161 k162 => ?_)
              rotate_left
              · refine lv_if_eq (tgt := 49) hx hb d_Cmp_trap_41 (by decide) (fun (h160 : (p0 &&& (4 : Int32)) = (0 : Int32)) => ?_) (fun (h160 : ¬ (p0 &&& (4 : Int32)) = (0 : Int32)) => ?_)
                · refine lv_iload_n hx hb d_Cmp_trap_49 rfl (lv_at hl 3 rfl) ?_
                  refine lv_iconst (v := (2 : Int32)) hx hb d_Cmp_trap_50 (by decide) ?_
                  refine lv_iand hx hb d_Cmp_trap_51 ?_
                  refine k_join2 (c0 := (p0 &&& (2 : Int32)) = (0 : Int32)) (x1 := (if (p0 &&& (1 : Int32)) = (0 : Int32) then (0 : Int32) else (if (f_Int_compareUnsigned p1 p2) ≤ (0 : Int32) then (0 : Int32) else (1 : Int32)))) (x2 := (if (f_Int_compareUnsigned p1 p2) < (0 : Int32) then (1 : Int32) else (if (p0 &&& (1 : Int32)) = (0 : Int32) then (0 : Int32) else (if (f_Int_compareUnsigned p1 p2) ≤ (0 : Int32) then (0 : Int32) else (1 : Int32))))) (rest := []) 76 ?_ (fun k164 k165 => ?_)
                  rotate_left
                  · refine lv_if_eq (tgt := 60) hx hb d_Cmp_trap_52 (by decide) (fun (h163 : (p0 &&& (2 : Int32)) = (0 : Int32)) => ?_) (fun (h163 : ¬ (p0 &&& (2 : Int32)) = (0 : Int32)) => ?_)
                    · refine lv_iload_n hx hb d_Cmp_trap_60 rfl (lv_at hl 3 rfl) ?_
                      refine lv_iconst (v := (1 : Int32)) hx hb d_Cmp_trap_61 (by decide) ?_
                      refine lv_iand hx hb d_Cmp_trap_62 ?_
                      refine k_join2 (c0 := (p0 &&& (1 : Int32)) = (0 : Int32)) (x1 := (0 : Int32)) (x2 := (if (f_Int_compareUnsigned p1 p2) ≤ (0 : Int32) then (0 : Int32) else (1 : Int32))) (rest := []) 76 ?_ (fun k167 k168 => ?_)
                      rotate_left
                      · refine lv_if_eq (tgt := 75) hx hb d_Cmp_trap_63 (by decide) (fun (h166 : (p0 &&& (1 : Int32)) = (0 : Int32)) => ?_) (fun (h166 : ¬ (p0 &&& (1 : Int32)) = (0 : Int32)) => ?_)
                        · refine lv_iconst (v := (0 : Int32)) hx hb d_Cmp_trap_75 (by decide) ?_
                          exact k167 h166
                        · refine lv_iload hx hb d_Cmp_trap_66 (lv_at hl 0 rfl) ?_
                          refine k_join2 (c0 := (f_Int_compareUnsigned p1 p2) ≤ (0 : Int32)) (x1 := (0 : Int32)) (x2 := (1 : Int32)) (rest := []) 76 ?_ (fun k170 k171 => ?_)
                          rotate_left
                          · refine lv_if_le (tgt := 75) hx hb d_Cmp_trap_68 (by decide) (fun (h169 : (f_Int_compareUnsigned p1 p2) ≤ (0 : Int32)) => ?_) (fun (h169 : ¬ (f_Int_compareUnsigned p1 p2) ≤ (0 : Int32)) => ?_)
                            · refine lv_iconst (v := (0 : Int32)) hx hb d_Cmp_trap_75 (by decide) ?_
                              exact k170 h169
                            · refine lv_iconst (v := (1 : Int32)) hx hb d_Cmp_trap_71 (by decide) ?_
                              refine lv_goto (tgt := 76) hx hb d_Cmp_trap_72 (by decide) ?_
                              exact k171 h169
                          exact k168 h166
                      exact k164 h163
                    · refine lv_iload hx hb d_Cmp_trap_55 (lv_at hl 0 rfl) ?_
                      refine k_join2 (c0 := (f_Int_compareUnsigned p1 p2) < (0 : Int32)) (x1 := (1 : Int32)) (x2 := (if (p0 &&& (1 : Int32)) = (0 : Int32) then (0 : Int32) else (if (f_Int_compareUnsigned p1 p2) ≤ (0 : Int32) then (0 : Int32) else (1 : Int32)))) (rest := []) 76 ?_ (fun k177 k178 => ?_)
                      rotate_left
                      · refine lv_if_lt (tgt := 71) hx hb d_Cmp_trap_57 (by decide) (fun (h176 : (f_Int_compareUnsigned p1 p2) < (0 : Int32)) => ?_) (fun (h176 : ¬ (f_Int_compareUnsigned p1 p2) < (0 : Int32)) => ?_)
                        · refine lv_iconst (v := (1 : Int32)) hx hb d_Cmp_trap_71 (by decide) ?_
                          refine lv_goto (tgt := 76) hx hb d_Cmp_trap_72 (by decide) ?_
                          exact k177 h176
                        · refine lv_iload_n hx hb d_Cmp_trap_60 rfl (lv_at hl 3 rfl) ?_
                          refine lv_iconst (v := (1 : Int32)) hx hb d_Cmp_trap_61 (by decide) ?_
                          refine lv_iand hx hb d_Cmp_trap_62 ?_
                          refine k_join2 (c0 := (p0 &&& (1 : Int32)) = (0 : Int32)) (x1 := (0 : Int32)) (x2 := (if (f_Int_compareUnsigned p1 p2) ≤ (0 : Int32) then (0 : Int32) else (1 : Int32))) (rest := []) 76 ?_ (fun k180 k181 => ?_)
                          rotate_left
                          · refine lv_if_eq (tgt := 75) hx hb d_Cmp_trap_63 (by decide) (fun (h179 : (p0 &&& (1 : Int32)) = (0 : Int32)) => ?_) (fun (h179 : ¬ (p0 &&& (1 : Int32)) = (0 : Int32)) => ?_)
                            · refine lv_iconst (v := (0 : Int32)) hx hb d_Cmp_trap_75 (by decide) ?_
                              exact k180 h179
                            · refine lv_iload hx hb d_Cmp_trap_66 (lv_at hl 0 rfl) ?_
                              refine k_join2 (c0 := (f_Int_compareUnsigned p1 p2) ≤ (0 : Int32)) (x1 := (0 : Int32)) (x2 := (1 : Int32)) (rest := []) 76 ?_ (fun k183 k184 => ?_)
                              rotate_left
                              · refine lv_if_le (tgt := 75) hx hb d_Cmp_trap_68 (by decide) (fun (h182 : (f_Int_compareUnsigned p1 p2) ≤ (0 : Int32)) => ?_) (fun (h182 : ¬ (f_Int_compareUnsigned p1 p2) ≤ (0 : Int32)) => ?_)
                                · refine lv_iconst (v := (0 : Int32)) hx hb d_Cmp_trap_75 (by decide) ?_
                                  exact k183 h182
                                · refine lv_iconst (v := (1 : Int32)) hx hb d_Cmp_trap_71 (by decide) ?_
                                  refine lv_goto (tgt := 76) hx hb d_Cmp_trap_72 (by decide) ?_
                                  exact k184 h182
                              exact k181 h179
                          exact k178 h176
                      exact k165 h163
                  exact k161 h160
                · refine lv_iload hx hb d_Cmp_trap_44 (lv_at hl 1 rfl) ?_
                  refine k_join2 (c0 := (f_Int_compare p1 p2) = (0 : Int32)) (x1 := (1 : Int32)) (x2 := (if (p0 &&& (2 : Int32)) = (0 : Int32) then (if (p0 &&& (1 : Int32)) = (0 : Int32) then (0 : Int32) else (if (f_Int_compareUnsigned p1 p2) ≤ (0 : Int32) then (0 : Int32) else (1 : Int32))) else (if (f_Int_compareUnsigned p1 p2) < (0 : Int32) then (1 : Int32) else (if (p0 &&& (1 : Int32)) = (0 : Int32) then (0 : Int32) else (if (f_Int_compareUnsigned p1 p2) ≤ (0 : Int32) then (0 : Int32) else (1 : Int32)))))) (rest := []) 76 ?_ (fun k194 k195 => ?_)
                  rotate_left
                  · refine lv_if_eq (tgt := 71) hx hb d_Cmp_trap_46 (by decide) (fun (h193 : (f_Int_compare p1 p2) = (0 : Int32)) => ?_) (fun (h193 : ¬ (f_Int_compare p1 p2) = (0 : Int32)) => ?_)
                    · refine lv_iconst (v := (1 : Int32)) hx hb d_Cmp_trap_71 (by decide) ?_
                      refine lv_goto (tgt := 76) hx hb d_Cmp_trap_72 (by decide) ?_
                      exact k194 h193
                    · refine lv_iload_n hx hb d_Cmp_trap_49 rfl (lv_at hl 3 rfl) ?_
                      refine lv_iconst (v := (2 : Int32)) hx hb d_Cmp_trap_50 (by decide) ?_
                      refine lv_iand hx hb d_Cmp_trap_51 ?_
                      refine k_join2 (c0 := (p0 &&& (2 : Int32)) = (0 : Int32)) (x1 := (if (p0 &&& (1 : Int32)) = (0 : Int32) then (0 : Int32) else (if (f_Int_compareUnsigned p1 p2) ≤ (0 : Int32) then (0 : Int32) else (1 : Int32)))) (x2 := (if (f_Int_compareUnsigned p1 p2) < (0 : Int32) then (1 : Int32) else (if (p0 &&& (1 : Int32)) = (0 : Int32) then (0 : Int32) else (if (f_Int_compareUnsigned p1 p2) ≤ (0 : Int32) then (0 : Int32) else (1 : Int32))))) (rest := []) 76 ?_ (fun k197 k198 => ?_)
                      rotate_left
                      · refine lv_if_eq (tgt := 60) hx hb d_Cmp_trap_52 (by decide) (fun (h196 : (p0 &&& (2 : Int32)) = (0 : Int32)) => ?_) (fun (h196 : ¬ (p0 &&& (2 : Int32)) = (0 : Int32)) => ?_)
                        · refine lv_iload_n hx hb d_Cmp_trap_60 rfl (lv_at hl 3 rfl) ?_
                          refine lv_iconst (v := (1 : Int32)) hx hb d_Cmp_trap_61 (by decide) ?_
                          refine lv_iand hx hb d_Cmp_trap_62 ?_
                          refine k_join2 (c0 := (p0 &&& (1 : Int32)) = (0 : Int32)) (x1 := (0 : Int32)) (x2 := (if (f_Int_compareUnsigned p1 p2) ≤ (0 : Int32) then (0 : Int32) else (1 : Int32))) (rest := []) 76 ?_ (fun k200 k201 => ?_)
                          rotate_left
                          · refine lv_if_eq (tgt := 75) hx hb d_Cmp_trap_63 (by decide) (fun (h199 : (p0 &&& (1 : Int32)) = (0 : Int32)) => ?_) (fun (h199 : ¬ (p0 &&& (1 : Int32)) = (0 : Int32)) => ?_)
                            · refine lv_iconst (v := (0 : Int32)) hx hb d_Cmp_trap_75 (by decide) ?_
                              exact k200 h199
                            · refine lv_iload hx hb d_Cmp_trap_66 (lv_at hl 0 rfl) ?_
                              refine k_join2 (c0 := (f_Int_compareUnsigned p1 p2) ≤ (0 : Int32)) (x1 := (0 : Int32)) (x2 := (1 : Int32)) (rest := []) 76 ?_ (fun k203 k204 => ?_)
                              rotate_left
                              · refine lv_if_le (tgt := 75) hx hb d_Cmp_trap_68 (by decide) (fun (h202 : (f_Int_compareUnsigned p1 p2) ≤ (0 : Int32)) => ?_) (fun (h202 : ¬ (f_Int_compareUnsigned p1 p2) ≤ (0 : Int32)) => ?_)
                                · refine lv_iconst (v := (0 : Int32)) hx hb d_Cmp_trap_75 (by decide) ?_
                                  exact k203 h202
                                · refine lv_iconst (v := (1 : Int32)) hx hb d_Cmp_trap_71 (by decide) ?_
                                  refine lv_goto (tgt := 76) hx hb d_Cmp_trap_72 (by decide) ?_
                                  exact k204 h202
                              exact k201 h199
                          exact k197 h196
                        · refine lv_iload hx hb d_Cmp_trap_55 (lv_at hl 0 rfl) ?_
                          refine k_join2 (c0 := (f_Int_compareUnsigned p1 p2) < (0 : Int32)) (x1 := (1 : Int32)) (x2 := (if (p0 &&& (1 : Int32)) = (0 : Int32) then (0 : Int32) else (if (f_Int_compareUnsigned p1 p2) ≤ (0 : Int32) then (0 : Int32) else (1 : Int32)))) (rest := []) 76 ?_ (fun k210 k211 => ?_)
                          rotate_left
                          · refine lv_if_lt (tgt := 71) hx hb d_Cmp_trap_57 (by decide) (fun (h209 : (f_Int_compareUnsigned p1 p2) < (0 : Int32)) => ?_) (fun (h209 : ¬ (f_Int_compareUnsigned p1 p2) < (0 : Int32)) => ?_)
                            · refine lv_iconst (v := (1 : Int32)) hx hb d_Cmp_trap_71 (by decide) ?_
                              refine lv_goto (tgt := 76) hx hb d_Cmp_trap_72 (by decide) ?_
                              exact k210 h209
                            · refine lv_iload_n hx hb d_Cmp_trap_60 rfl (lv_at hl 3 rfl) ?_
                              refine lv_iconst (v := (1 : Int32)) hx hb d_Cmp_trap_61 (by decide) ?_
                              refine lv_iand hx hb d_Cmp_trap_62 ?_
                              refine k_join2 (c0 := (p0 &&& (1 : Int32)) = (0 : Int32)) (x1 := (0 : Int32)) (x2 := (if (f_Int_compareUnsigned p1 p2) ≤ (0 : Int32) then (0 : Int32) else (1 : Int32))) (rest := []) 76 ?_ (fun k213 k214 => ?_)
                              rotate_left
                              · refine lv_if_eq (tgt := 75) hx hb d_Cmp_trap_63 (by decide) (fun (h212 : (p0 &&& (1 : Int32)) = (0 : Int32)) => ?_) (fun (h212 : ¬ (p0 &&& (1 : Int32)) = (0 : Int32)) => ?_)
                                · refine lv_iconst (v := (0 : Int32)) hx hb d_Cmp_trap_75 (by decide) ?_
                                  exact k213 h212
                                · refine lv_iload hx hb d_Cmp_trap_66 (lv_at hl 0 rfl) ?_
                                  refine k_join2 (c0 := (f_Int_compareUnsigned p1 p2) ≤ (0 : Int32)) (x1 := (0 : Int32)) (x2 := (1 : Int32)) (rest := []) 76 ?_ (fun k216 k217 => ?_)
                                  rotate_left
                                  · refine lv_if_le (tgt := 75) hx hb d_Cmp_trap_68 (by decide) (fun (h215 : (f_Int_compareUnsigned p1 p2) ≤ (0 : Int32)) => ?_) (fun (h215 : ¬ (f_Int_compareUnsigned p1 p2) ≤ (0 : Int32)) => ?_)
                                    · refine lv_iconst (v := (0 : Int32)) hx hb d_Cmp_trap_75 (by decide) ?_
                                      exact k216 h215
                                    · refine lv_iconst (v := (1 : Int32)) hx hb d_Cmp_trap_71 (by decide) ?_
                                      refine lv_goto (tgt := 76) hx hb d_Cmp_trap_72 (by decide) ?_
                                      exact k217 h215
                                  exact k214 h212
                              exact k211 h209
                          exact k198 h196
                      exact k195 h193
                  exact k162 h160
              exact k158 h157
            · refine lv_iload hx hb d_Cmp_trap_33 (lv_at hl 1 rfl) ?_
              refine k_join2 (c0 := (0 : Int32) < (f_Int_compare p1 p2)) (x1 := (1 : Int32)) (x2 := (if (p0 &&& (4 : Int32)) = (0 : Int32) then (if (p0 &&& (2 : Int32)) = (0 : Int32) then (if (p0 &&& (1 : Int32)) = (0 : Int32) then (0 : Int32) else (if (f_Int_compareUnsigned p1 p2) ≤ (0 : Int32) then (0 : Int32) else (1 : Int32))) else (if (f_Int_compareUnsigned p1 p2) < (0 : Int32) then (1 : Int32) else (if (p0 &&& (1 : Int32)) = (0 : Int32) then (0 : Int32) else (if (f_Int_compareUnsigned p1 p2) ≤ (0 : Int32) then (0 : Int32) else (1 : Int32))))) else (if (f_Int_compare p1 p2) = (0 : Int32) then (1 : Int32) else (if (p0 &&& (2 : Int32)) = (0 : Int32) then (if (p0 &&& (1 : Int32)) = (0 : Int32) then (0 : Int32) else (if (f_Int_compareUnsigned p1 p2) ≤ (0 : Int32) then (0 : Int32) else (1 : Int32))) else (if (f_Int_compareUnsigned p1 p2) < (0 : Int32) then (1 : Int32) else (if (p0 &&& (1 : Int32)) = (0 : Int32) then (0 : Int32) else (if (f_Int_compareUnsigned p1 p2) ≤ (0 : Int32) then (0 : Int32) else (1 : Int32)))))))) (rest := []) 76 ?_ (fun k231 k232 => ?_)
              rotate_left
              · refine lv_if_gt (tgt := 71) hx hb d_Cmp_trap_35 (by decide) (fun (h230 : (0 : Int32) < (f_Int_compare p1 p2)) => ?_) (fun (h230 : ¬ (0 : Int32) < (f_Int_compare p1 p2)) => ?_)
                · refine lv_iconst (v := (1 : Int32)) hx hb d_Cmp_trap_71 (by decide) ?_
                  refine lv_goto (tgt := 76) hx hb d_Cmp_trap_72 (by decide) ?_
                  exact k231 h230
                · refine lv_iload_n hx hb d_Cmp_trap_38 rfl (lv_at hl 3 rfl) ?_
                  refine lv_iconst (v := (4 : Int32)) hx hb d_Cmp_trap_39 (by decide) ?_
                  refine lv_iand hx hb d_Cmp_trap_40 ?_
                  refine k_join2 (c0 := (p0 &&& (4 : Int32)) = (0 : Int32)) (x1 := (if (p0 &&& (2 : Int32)) = (0 : Int32) then (if (p0 &&& (1 : Int32)) = (0 : Int32) then (0 : Int32) else (if (f_Int_compareUnsigned p1 p2) ≤ (0 : Int32) then (0 : Int32) else (1 : Int32))) else (if (f_Int_compareUnsigned p1 p2) < (0 : Int32) then (1 : Int32) else (if (p0 &&& (1 : Int32)) = (0 : Int32) then (0 : Int32) else (if (f_Int_compareUnsigned p1 p2) ≤ (0 : Int32) then (0 : Int32) else (1 : Int32)))))) (x2 := (if (f_Int_compare p1 p2) = (0 : Int32) then (1 : Int32) else (if (p0 &&& (2 : Int32)) = (0 : Int32) then (if (p0 &&& (1 : Int32)) = (0 : Int32) then (0 : Int32) else (if (f_Int_compareUnsigned p1 p2) ≤ (0 : Int32) then (0 : Int32) else (1 : Int32))) else (if (f_Int_compareUnsigned p1 p2) < (0 : Int32) then (1 : Int32) else (if (p0 &&& (1 : Int32)) = (0 : Int32) then (0 : Int32) else (if (f_Int_compareUnsigned p1 p2) ≤ (0 : Int32) then (0 : Int32) else (1 : Int32))))))) (rest := []) 76 ?_ (fun k234 k235 => ?_)
                  rotate_left
                  · refine lv_if_eq (tgt := 49) hx hb d_Cmp_trap_41 (by decide) (fun (h233 : (p0 &&& (4 : Int32)) = (0 : Int32)) => ?_) (fun (h233 : ¬ (p0 &&& (4 : Int32)) = (0 : Int32)) => ?_)
                    · refine lv_iload_n hx hb d_Cmp_trap_49 rfl (lv_at hl 3 rfl) ?_
                      refine lv_iconst (v := (2 : Int32)) hx hb d_Cmp_trap_50 (by decide) ?_
                      refine lv_iand hx hb d_Cmp_trap_51 ?_
                      refine k_join2 (c0 := (p0 &&& (2 : Int32)) = (0 : Int32)) (x1 := (if (p0 &&& (1 : Int32)) = (0 : Int32) then (0 : Int32) else (if (f_Int_compareUnsigned p1 p2) ≤ (0 : Int32) then (0 : Int32) else (1 : Int32)))) (x2 := (if (f_Int_compareUnsigned p1 p2) < (0 : Int32) then (1 : Int32) else (if (p0 &&& (1 : Int32)) = (0 : Int32) then (0 : Int32) else (if (f_Int_compareUnsigned p1 p2) ≤ (0 : Int32) then (0 : Int32) else (1 : Int32))))) (rest := []) 76 ?_ (fun k237 k238 => ?_)
                      rotate_left
                      · refine lv_if_eq (tgt := 60) hx hb d_Cmp_trap_52 (by decide) (fun (h236 : (p0 &&& (2 : Int32)) = (0 : Int32)) => ?_) (fun (h236 : ¬ (p0 &&& (2 : Int32)) = (0 : Int32)) => ?_)
                        · refine lv_iload_n hx hb d_Cmp_trap_60 rfl (lv_at hl 3 rfl) ?_
                          refine lv_iconst (v := (1 : Int32)) hx hb d_Cmp_trap_61 (by decide) ?_
                          refine lv_iand hx hb d_Cmp_trap_62 ?_
                          refine k_join2 (c0 := (p0 &&& (1 : Int32)) = (0 : Int32)) (x1 := (0 : Int32)) (x2 := (if (f_Int_compareUnsigned p1 p2) ≤ (0 : Int32) then (0 : Int32) else (1 : Int32))) (rest := []) 76 ?_ (fun k240 k241 => ?_)
                          rotate_left
                          · refine lv_if_eq (tgt := 75) hx hb d_Cmp_trap_63 (by decide) (fun (h239 : (p0 &&& (1 : Int32)) = (0 : Int32)) => ?_) (fun (h239 : ¬ (p0 &&& (1 : Int32)) = (0 : Int32)) => ?_)
                            · refine lv_iconst (v := (0 : Int32)) hx hb d_Cmp_trap_75 (by decide) ?_
                              exact k240 h239
                            · refine lv_iload hx hb d_Cmp_trap_66 (lv_at hl 0 rfl) ?_
                              refine k_join2 (c0 := (f_Int_compareUnsigned p1 p2) ≤ (0 : Int32)) (x1 := (0 : Int32)) (x2 := (1 : Int32)) (rest := []) 76 ?_ (fun k243 k244 => ?_)
                              rotate_left
                              · refine lv_if_le (tgt := 75) hx hb d_Cmp_trap_68 (by decide) (fun (h242 : (f_Int_compareUnsigned p1 p2) ≤ (0 : Int32)) => ?_) (fun (h242 : ¬ (f_Int_compareUnsigned p1 p2) ≤ (0 : Int32)) => ?_)
                                · refine lv_iconst (v := (0 : Int32)) hx hb d_Cmp_trap_75 (by decide) ?_
                                  exact k243 h242
                                · refine lv_iconst (v := (1 : Int32)) hx hb d_Cmp_trap_71 (by decide) ?_
                                  refine lv_goto (tgt := 76) hx hb d_Cmp_trap_72 (by decide) ?_
                                  exact k244 h242
                              exact k241 h239
                          exact k237 h236
                        · refine lv_iload hx hb d_Cmp_trap_55 (lv_at hl 0 rfl) ?_
                          refine k_join2 (c0 := (f_Int_compareUnsigned p1 p2) < (0 : Int32)) (x1 := (1 : Int32)) (x2 := (if (p0 &&& (1 : Int32)) = (0 : Int32) then (0 : Int32) else (if (f_Int_compareUnsigned p1 p2) ≤ (0 : Int32) then (0 : Int32) else (1 : Int32)))) (rest := []) 76 ?_ (fun k250 k251 => ?_)
                          rotate_left
                          · refine lv_if_lt (tgt := 71) hx hb d_Cmp_trap_57 (by decide) (fun (h249 : (f_Int_compareUnsigned p1 p2) < (0 : Int32)) => ?_) (fun (h249 : ¬ (f_Int_compareUnsigned p1 p2) < (0 : Int32)) => ?_)
                            · refine lv_iconst (v := (1 : Int32)) hx hb d_Cmp_trap_71 (by decide) ?_
                              refine lv_goto (tgt := 76) hx hb d_Cmp_trap_72 (by decide) ?_
                              exact k250 h249
                            · refine lv_iload_n hx hb d_Cmp_trap_60 rfl (lv_at hl 3 rfl) ?_
                              refine lv_iconst (v := (1 : Int32)) hx hb d_Cmp_trap_61 (by decide) ?_
                              refine lv_iand hx hb d_Cmp_trap_62 ?_
                              refine k_join2 (c0 := (p0 &&& (1 : Int32)) = (0 : Int32)) (x1 := (0 : Int32)) (x2 := (if (f_Int_compareUnsigned p1 p2) ≤ (0 : Int32) then (0 : Int32) else (1 : Int32))) (rest := []) 76 ?_ (fun k253 k254 => ?_)
                              rotate_left
                              · refine lv_if_eq (tgt := 75) hx hb d_Cmp_trap_63 (by decide) (fun (h252 : (p0 &&& (1 : Int32)) = (0 : Int32)) => ?_) (fun (h252 : ¬ (p0 &&& (1 : Int32)) = (0 : Int32)) => ?_)
                                · refine lv_iconst (v := (0 : Int32)) hx hb d_Cmp_trap_75 (by decide) ?_
                                  exact k253 h252
                                · refine lv_iload hx hb d_Cmp_trap_66 (lv_at hl 0 rfl) ?_
                                  refine k_join2 (c0 := (f_Int_compareUnsigned p1 p2) ≤ (0 : Int32)) (x1 := (0 : Int32)) (x2 := (1 : Int32)) (rest := []) 76 ?_ (fun k256 k257 => ?_)
                                  rotate_left
                                  · refine lv_if_le (tgt := 75) hx hb d_Cmp_trap_68 (by decide) (fun (h255 : (f_Int_compareUnsigned p1 p2) ≤ (0 : Int32)) => ?_) (fun (h255 : ¬ (f_Int_compareUnsigned p1 p2) ≤ (0 : Int32)) => ?_)
                                    · refine lv_iconst (v := (0 : Int32)) hx hb d_Cmp_trap_75 (by decide) ?_
                                      exact k256 h255
                                    · refine lv_iconst (v := (1 : Int32)) hx hb d_Cmp_trap_71 (by decide) ?_
                                      refine lv_goto (tgt := 76) hx hb d_Cmp_trap_72 (by decide) ?_
                                      exact k257 h255
                                  exact k254 h252
                              exact k251 h249
                          exact k238 h236
                      exact k234 h233
                    · refine lv_iload hx hb d_Cmp_trap_44 (lv_at hl 1 rfl) ?_
                      refine k_join2 (c0 := (f_Int_compare p1 p2) = (0 : Int32)) (x1 := (1 : Int32)) (x2 := (if (p0 &&& (2 : Int32)) = (0 : Int32) then (if (p0 &&& (1 : Int32)) = (0 : Int32) then (0 : Int32) else (if (f_Int_compareUnsigned p1 p2) ≤ (0 : Int32) then (0 : Int32) else (1 : Int32))) else (if (f_Int_compareUnsigned p1 p2) < (0 : Int32) then (1 : Int32) else (if (p0 &&& (1 : Int32)) = (0 : Int32) then (0 : Int32) else (if (f_Int_compareUnsigned p1 p2) ≤ (0 : Int32) then (0 : Int32) else (1 : Int32)))))) (rest := []) 76 ?_ (fun k267 k268 => ?_)
                      rotate_left
                      · refine lv_if_eq (tgt := 71) hx hb d_Cmp_trap_46 (by decide) (fun (h266 : (f_Int_compare p1 p2) = (0 : Int32)) => ?_) (fun (h266 : ¬ (f_Int_compare p1 p2) = (0 : Int32)) => ?_)
                        · refine lv_iconst (v := (1 : Int32)) hx hb d_Cmp_trap_71 (by decide) ?_
                          refine lv_goto (tgt := 76) hx hb d_Cmp_trap_72 (by decide) ?_
                          exact k267 h266
                        · refine lv_iload_n hx hb d_Cmp_trap_49 rfl (lv_at hl 3 rfl) ?_
                          refine lv_iconst (v := (2 : Int32)) hx hb d_Cmp_trap_50 (by decide) ?_
                          refine lv_iand hx hb d_Cmp_trap_51 ?_
                          refine k_join2 (c0 := (p0 &&& (2 : Int32)) = (0 : Int32)) (x1 := (if (p0 &&& (1 : Int32)) = (0 : Int32) then (0 : Int32) else (if (f_Int_compareUnsigned p1 p2) ≤ (0 : Int32) then (0 : Int32) else (1 : Int32)))) (x2 := (if (f_Int_compareUnsigned p1 p2) < (0 : Int32) then (1 : Int32) else (if (p0 &&& (1 : Int32)) = (0 : Int32) then (0 : Int32) else (if (f_Int_compareUnsigned p1 p2) ≤ (0 : Int32) then (0 : Int32) else (1 : Int32))))) (rest := []) 76 ?_ (fun k270 k271 => ?_)
                          rotate_left
                          · refine lv_if_eq (tgt := 60) hx hb d_Cmp_trap_52 (by decide) (fun (h269 : (p0 &&& (2 : Int32)) = (0 : Int32)) => ?_) (fun (h269 : ¬ (p0 &&& (2 : Int32)) = (0 : Int32)) => ?_)
                            · refine lv_iload_n hx hb d_Cmp_trap_60 rfl (lv_at hl 3 rfl) ?_
                              refine lv_iconst (v := (1 : Int32)) hx hb d_Cmp_trap_61 (by decide) ?_
                              refine lv_iand hx hb d_Cmp_trap_62 ?_
                              refine k_join2 (c0 := (p0 &&& (1 : Int32)) = (0 : Int32)) (x1 := (0 : Int32)) (x2 := (if (f_Int_compareUnsigned p1 p2) ≤ (0 : Int32) then (0 : Int32) else (1 : Int32))) (rest := []) 76 ?_ (fun k273 k274 => ?_)
                              rotate_left
                              · refine lv_if_eq (tgt := 75) hx hb d_Cmp_trap_63 (by decide) (fun (h272 : (p0 &&& (1 : Int32)) = (0 : Int32)) => ?_) (fun (h272 : ¬ (p0 &&& (1 : Int32)) = (0 : Int32)) => ?_)
                                · refine lv_iconst (v := (0 : Int32)) hx hb d_Cmp_trap_75 (by decide) ?_
                                  exact k273 h272
                                · refine lv_iload hx hb d_Cmp_trap_66 (lv_at hl 0 rfl) ?_
                                  refine k_join2 (c0 := (f_Int_compareUnsigned p1 p2) ≤ (0 : Int32)) (x1 := (0 : Int32)) (x2 := (1 : Int32)) (rest := []) 76 ?_ (fun k276 k277 => ?_)
                                  rotate_left
                                  · refine lv_if_le (tgt := 75) hx hb d_Cmp_trap_68 (by decide) (fun (h275 : (f_Int_compareUnsigned p1 p2) ≤ (0 : Int32)) => ?_) (fun (h275 : ¬ (f_Int_compareUnsigned p1 p2) ≤ (0 : Int32)) => ?_)
                                    · refine lv_iconst (v := (0 : Int32)) hx hb d_Cmp_trap_75 (by decide) ?_
                                      exact k276 h275
                                    · refine lv_iconst (v := (1 : Int32)) hx hb d_Cmp_trap_71 (by decide) ?_
                                      refine lv_goto (tgt := 76) hx hb d_Cmp_trap_72 (by decide) ?_
                                      exact k277 h275
                                  exact k274 h272
                              exact k270 h269
                            · refine lv_iload hx hb d_Cmp_trap_55 (lv_at hl 0 rfl) ?_
                              refine k_join2 (c0 := (f_Int_compareUnsigned p1 p2) < (0 : Int32)) (x1 := (1 : Int32)) (x2 := (if (p0 &&& (1 : Int32)) = (0 : Int32) then (0 : Int32) else (if (f_Int_compareUnsigned p1 p2) ≤ (0 : Int32) then (0 : Int32) else (1 : Int32)))) (rest := []) 76 ?_ (fun k283 k284 => ?_)
                              rotate_left
                              · refine lv_if_lt (tgt := 71) hx hb d_Cmp_trap_57 (by decide) (fun (h282 : (f_Int_compareUnsigned p1 p2) < (0 : Int32)) => ?_) (fun (h282 : ¬ (f_Int_compareUnsigned p1 p2) < (0 : Int32)) => ?_)
                                · refine lv_iconst (v := (1 : Int32)) hx hb d_Cmp_trap_71 (by decide) ?_
                                  refine lv_goto (tgt := 76) hx hb d_Cmp_trap_72 (by decide) ?_
                                  exact k283 h282
                                · refine lv_iload_n hx hb d_Cmp_trap_60 rfl (lv_at hl 3 rfl) ?_
                                  refine lv_iconst (v := (1 : Int32)) hx hb d_Cmp_trap_61 (by decide) ?_
                                  refine lv_iand hx hb d_Cmp_trap_62 ?_
                                  refine k_join2 (c0 := (p0 &&& (1 : Int32)) = (0 : Int32)) (x1 := (0 : Int32)) (x2 := (if (f_Int_compareUnsigned p1 p2) ≤ (0 : Int32) then (0 : Int32) else (1 : Int32))) (rest := []) 76 ?_ (fun k286 k287 => ?_)
                                  rotate_left
                                  · refine lv_if_eq (tgt := 75) hx hb d_Cmp_trap_63 (by decide) (fun (h285 : (p0 &&& (1 : Int32)) = (0 : Int32)) => ?_) (fun (h285 : ¬ (p0 &&& (1 : Int32)) = (0 : Int32)) => ?_)
                                    · refine lv_iconst (v := (0 : Int32)) hx hb d_Cmp_trap_75 (by decide) ?_
                                      exact k286 h285
                                    · refine lv_iload hx hb d_Cmp_trap_66 (lv_at hl 0 rfl) ?_
                                      refine k_join2 (c0 := (f_Int_compareUnsigned p1 p2) ≤ (0 : Int32)) (x1 := (0 : Int32)) (x2 := (1 : Int32)) (rest := []) 76 ?_ (fun k289 k290 => ?_)
                                      rotate_left
                                      · refine lv_if_le (tgt := 75) hx hb d_Cmp_trap_68 (by decide) (fun (h288 : (f_Int_compareUnsigned p1 p2) ≤ (0 : Int32)) => ?_) (fun (h288 : ¬ (f_Int_compareUnsigned p1 p2) ≤ (0 : Int32)) => ?_)
                                        · refine lv_iconst (v := (0 : Int32)) hx hb d_Cmp_trap_75 (by decide) ?_
                                          exact k289 h288
                                        · refine lv_iconst (v := (1 : Int32)) hx hb d_Cmp_trap_71 (by decide) ?_
                                          refine lv_goto (tgt := 76) hx hb d_Cmp_trap_72 (by decide) ?_
                                          exact k290 h288
                                      exact k287 h285
                                  exact k284 h282
                              exact k271 h269
                          exact k268 h266
                      exact k235 h233
                  exact k232 h230
              exact k159 h157
          exact k156 h154
      exact k3 h1
  refine lv_istore (lv' := [(6, .int (if (p0 &&& (16 : Int32)) = (0 : Int32) then (if (p0 &&& (8 : Int32)) = (0 : Int32) then (if (p0 &&& (4 : Int32)) = (0 : Int32) then (if (p0 &&& (2 : Int32)) = (0 : Int32) then (if (p0 &&& (1 : Int32)) = (0 : Int32) then (0 : Int32) else (if (f_Int_compareUnsigned p1 p2) ≤ (0 : Int32) then (0 : Int32) else (1 : Int32))) else (if (f_Int_compareUnsigned p1 p2) < (0 : Int32) then (1 : Int32) else (if (p0 &&& (1 : Int32)) = (0 : Int32) then (0 : Int32) else (if (f_Int_compareUnsigned p1 p2) ≤ (0 : Int32) then (0 : Int32) else (1 : Int32))))) else (if (f_Int_compare p1 p2) = (0 : Int32) then (1 : Int32) else (if (p0 &&& (2 : Int32)) = (0 : Int32) then (if (p0 &&& (1 : Int32)) = (0 : Int32) then (0 : Int32) else (if (f_Int_compareUnsigned p1 p2) ≤ (0 : Int32) then (0 : Int32) else (1 : Int32))) else (if (f_Int_compareUnsigned p1 p2) < (0 : Int32) then (1 : Int32) else (if (p0 &&& (1 : Int32)) = (0 : Int32) then (0 : Int32) else (if (f_Int_compareUnsigned p1 p2) ≤ (0 : Int32) then (0 : Int32) else (1 : Int32))))))) else (if (0 : Int32) < (f_Int_compare p1 p2) then (1 : Int32) else (if (p0 &&& (4 : Int32)) = (0 : Int32) then (if (p0 &&& (2 : Int32)) = (0 : Int32) then (if (p0 &&& (1 : Int32)) = (0 : Int32) then (0 : Int32) else (if (f_Int_compareUnsigned p1 p2) ≤ (0 : Int32) then (0 : Int32) else (1 : Int32))) else (if (f_Int_compareUnsigned p1 p2) < (0 : Int32) then (1 : Int32) else (if (p0 &&& (1 : Int32)) = (0 : Int32) then (0 : Int32) else (if (f_Int_compareUnsigned p1 p2) ≤ (0 : Int32) then (0 : Int32) else (1 : Int32))))) else (if (f_Int_compare p1 p2) = (0 : Int32) then (1 : Int32) else (if (p0 &&& (2 : Int32)) = (0 : Int32) then (if (p0 &&& (1 : Int32)) = (0 : Int32) then (0 : Int32) else (if (f_Int_compareUnsigned p1 p2) ≤ (0 : Int32) then (0 : Int32) else (1 : Int32))) else (if (f_Int_compareUnsigned p1 p2) < (0 : Int32) then (1 : Int32) else (if (p0 &&& (1 : Int32)) = (0 : Int32) then (0 : Int32) else (if (f_Int_compareUnsigned p1 p2) ≤ (0 : Int32) then (0 : Int32) else (1 : Int32))))))))) else (if (f_Int_compare p1 p2) < (0 : Int32) then (1 : Int32) else (if (p0 &&& (8 : Int32)) = (0 : Int32) then (if (p0 &&& (4 : Int32)) = (0 : Int32) then (if (p0 &&& (2 : Int32)) = (0 : Int32) then (if (p0 &&& (1 : Int32)) = (0 : Int32) then (0 : Int32) else (if (f_Int_compareUnsigned p1 p2) ≤ (0 : Int32) then (0 : Int32) else (1 : Int32))) else (if (f_Int_compareUnsigned p1 p2) < (0 : Int32) then (1 : Int32) else (if (p0 &&& (1 : Int32)) = (0 : Int32) then (0 : Int32) else (if (f_Int_compareUnsigned p1 p2) ≤ (0 : Int32) then (0 : Int32) else (1 : Int32))))) else (if (f_Int_compare p1 p2) = (0 : Int32) then (1 : Int32) else (if (p0 &&& (2 : Int32)) = (0 : Int32) then (if (p0 &&& (1 : Int32)) = (0 : Int32) then (0 : Int32) else (if (f_Int_compareUnsigned p1 p2) ≤ (0 : Int32) then (0 : Int32) else (1 : Int32))) else (if (f_Int_compareUnsigned p1 p2) < (0 : Int32) then (1 : Int32) else (if (p0 &&& (1 : Int32)) = (0 : Int32) then (0 : Int32) else (if (f_Int_compareUnsigned p1 p2) ≤ (0 : Int32) then (0 : Int32) else (1 : Int32))))))) else (if (0 : Int32) < (f_Int_compare p1 p2) then (1 : Int32) else (if (p0 &&& (4 : Int32)) = (0 : Int32) then (if (p0 &&& (2 : Int32)) = (0 : Int32) then (if (p0 &&& (1 : Int32)) = (0 : Int32) then (0 : Int32) else (if (f_Int_compareUnsigned p1 p2) ≤ (0 : Int32) then (0 : Int32) else (1 : Int32))) else (if (f_Int_compareUnsigned p1 p2) < (0 : Int32) then (1 : Int32) else (if (p0 &&& (1 : Int32)) = (0 : Int32) then (0 : Int32) else (if (f_Int_compareUnsigned p1 p2) ≤ (0 : Int32) then (0 : Int32) else (1 : Int32))))) else (if (f_Int_compare p1 p2) = (0 : Int32) then (1 : Int32) else (if (p0 &&& (2 : Int32)) = (0 : Int32) then (if (p0 &&& (1 : Int32)) = (0 : Int32) then (0 : Int32) else (if (f_Int_compareUnsigned p1 p2) ≤ (0 : Int32) then (0 : Int32) else (1 : Int32))) else (if (f_Int_compareUnsigned p1 p2) < (0 : Int32) then (1 : Int32) else (if (p0 &&& (1 : Int32)) = (0 : Int32) then (0 : Int32) else (if (f_Int_compareUnsigned p1 p2) ≤ (0 : Int32) then (0 : Int32) else (1 : Int32)))))))))))), (5, .int (f_Int_compareUnsigned p1 p2)), (4, .int (f_Int_compare p1 p2)), (0, .ref aC), (1, .int p0), (2, .int p1), (3, .int p2)]) hx hb d_Cmp_trap_76 hl (by decide) rfl (fun ls hl => ?_)
  refine lv_iload hx hb d_Cmp_trap_78 (lv_at hl 0 rfl) ?_
  refine lv_if_eq (tgt := 95) hx hb d_Cmp_trap_80 (by decide) (fun (h314 : (if (p0 &&& (16 : Int32)) = (0 : Int32) then (if (p0 &&& (8 : Int32)) = (0 : Int32) then (if (p0 &&& (4 : Int32)) = (0 : Int32) then (if (p0 &&& (2 : Int32)) = (0 : Int32) then (if (p0 &&& (1 : Int32)) = (0 : Int32) then (0 : Int32) else (if (f_Int_compareUnsigned p1 p2) ≤ (0 : Int32) then (0 : Int32) else (1 : Int32))) else (if (f_Int_compareUnsigned p1 p2) < (0 : Int32) then (1 : Int32) else (if (p0 &&& (1 : Int32)) = (0 : Int32) then (0 : Int32) else (if (f_Int_compareUnsigned p1 p2) ≤ (0 : Int32) then (0 : Int32) else (1 : Int32))))) else (if (f_Int_compare p1 p2) = (0 : Int32) then (1 : Int32) else (if (p0 &&& (2 : Int32)) = (0 : Int32) then (if (p0 &&& (1 : Int32)) = (0 : Int32) then (0 : Int32) else (if (f_Int_compareUnsigned p1 p2) ≤ (0 : Int32) then (0 : Int32) else (1 : Int32))) else (if (f_Int_compareUnsigned p1 p2) < (0 : Int32) then (1 : Int32) else (if (p0 &&& (1 : Int32)) = (0 : Int32) then (0 : Int32) else (if (f_Int_compareUnsigned p1 p2) ≤ (0 : Int32) then (0 : Int32) else (1 : Int32))))))) else (if (0 : Int32) < (f_Int_compare p1 p2) then (1 : Int32) else (if (p0 &&& (4 : Int32)) = (0 : Int32) then (if (p0 &&& (2 : Int32)) = (0 : Int32) then (if (p0 &&& (1 : Int32)) = (0 : Int32) then (0 : Int32) else (if (f_Int_compareUnsigned p1 p2) ≤ (0 : Int32) then (0 : Int32) else (1 : Int32))) else (if (f_Int_compareUnsigned p1 p2) < (0 : Int32) then (1 : Int32) else (if (p0 &&& (1 : Int32)) = (0 : Int32) then (0 : Int32) else (if (f_Int_compareUnsigned p1 p2) ≤ (0 : Int32) then (0 : Int32) else (1 : Int32))))) else (if (f_Int_compare p1 p2) = (0 : Int32) then (1 : Int32) else (if (p0 &&& (2 : Int32)) = (0 : Int32) then (if (p0 &&& (1 : Int32)) = (0 : Int32) then (0 : Int32) else (if (f_Int_compareUnsigned p1 p2) ≤ (0 : Int32) then (0 : Int32) else (1 : Int32))) else (if (f_Int_compareUnsigned p1 p2) < (0 : Int32) then (1 : Int32) else (if (p0 &&& (1 : Int32)) = (0 : Int32) then (0 : Int32) else (if (f_Int_compareUnsigned p1 p2) ≤ (0 : Int32) then (0 : Int32) else (1 : Int32))))))))) else (if (f_Int_compare p1 p2) < (0 : Int32) then (1 : Int32) else (if (p0 &&& (8 : Int32)) = (0 : Int32) then (if (p0 &&& (4 : Int32)) = (0 : Int32) then (if (p0 &&& (2 : Int32)) = (0 : Int32) then (if (p0 &&& (1 : Int32)) = (0 : Int32) then (0 : Int32) else (if (f_Int_compareUnsigned p1 p2) ≤ (0 : Int32) then (0 : Int32) else (1 : Int32))) else (if (f_Int_compareUnsigned p1 p2) < (0 : Int32) then (1 : Int32) else (if (p0 &&& (1 : Int32)) = (0 : Int32) then (0 : Int32) else (if (f_Int_compareUnsigned p1 p2) ≤ (0 : Int32) then (0 : Int32) else (1 : Int32))))) else (if (f_Int_compare p1 p2) = (0 : Int32) then (1 : Int32) else (if (p0 &&& (2 : Int32)) = (0 : Int32) then (if (p0 &&& (1 : Int32)) = (0 : Int32) then (0 : Int32) else (if (f_Int_compareUnsigned p1 p2) ≤ (0 : Int32) then (0 : Int32) else (1 : Int32))) else (if (f_Int_compareUnsigned p1 p2) < (0 : Int32) then (1 : Int32) else (if (p0 &&& (1 : Int32)) = (0 : Int32) then (0 : Int32) else (if (f_Int_compareUnsigned p1 p2) ≤ (0 : Int32) then (0 : Int32) else (1 : Int32))))))) else (if (0 : Int32) < (f_Int_compare p1 p2) then (1 : Int32) else (if (p0 &&& (4 : Int32)) = (0 : Int32) then (if (p0 &&& (2 : Int32)) = (0 : Int32) then (if (p0 &&& (1 : Int32)) = (0 : Int32) then (0 : Int32) else (if (f_Int_compareUnsigned p1 p2) ≤ (0 : Int32) then (0 : Int32) else (1 : Int32))) else (if (f_Int_compareUnsigned p1 p2) < (0 : Int32) then (1 : Int32) else (if (p0 &&& (1 : Int32)) = (0 : Int32) then (0 : Int32) else (if (f_Int_compareUnsigned p1 p2) ≤ (0 : Int32) then (0 : Int32) else (1 : Int32))))) else (if (f_Int_compare p1 p2) = (0 : Int32) then (1 : Int32) else (if (p0 &&& (2 : Int32)) = (0 : Int32) then (if (p0 &&& (1 : Int32)) = (0 : Int32) then (0 : Int32) else (if (f_Int_compareUnsigned p1 p2) ≤ (0 : Int32) then (0 : Int32) else (1 : Int32))) else (if (f_Int_compareUnsigned p1 p2) < (0 : Int32) then (1 : Int32) else (if (p0 &&& (1 : Int32)) = (0 : Int32) then (0 : Int32) else (if (f_Int_compareUnsigned p1 p2) ≤ (0 : Int32) then (0 : Int32) else (1 : Int32))))))))))) = (0 : Int32)) => ?_) (fun (h314 : ¬ (if (p0 &&& (16 : Int32)) = (0 : Int32) then (if (p0 &&& (8 : Int32)) = (0 : Int32) then (if (p0 &&& (4 : Int32)) = (0 : Int32) then (if (p0 &&& (2 : Int32)) = (0 : Int32) then (if (p0 &&& (1 : Int32)) = (0 : Int32) then (0 : Int32) else (if (f_Int_compareUnsigned p1 p2) ≤ (0 : Int32) then (0 : Int32) else (1 : Int32))) else (if (f_Int_compareUnsigned p1 p2) < (0 : Int32) then (1 : Int32) else (if (p0 &&& (1 : Int32)) = (0 : Int32) then (0 : Int32) else (if (f_Int_compareUnsigned p1 p2) ≤ (0 : Int32) then (0 : Int32) else (1 : Int32))))) else (if (f_Int_compare p1 p2) = (0 : Int32) then (1 : Int32) else (if (p0 &&& (2 : Int32)) = (0 : Int32) then (if (p0 &&& (1 : Int32)) = (0 : Int32) then (0 : Int32) else (if (f_Int_compareUnsigned p1 p2) ≤ (0 : Int32) then (0 : Int32) else (1 : Int32))) else (if (f_Int_compareUnsigned p1 p2) < (0 : Int32) then (1 : Int32) else (if (p0 &&& (1 : Int32)) = (0 : Int32) then (0 : Int32) else (if (f_Int_compareUnsigned p1 p2) ≤ (0 : Int32) then (0 : Int32) else (1 : Int32))))))) else (if (0 : Int32) < (f_Int_compare p1 p2) then (1 : Int32) else (if (p0 &&& (4 : Int32)) = (0 : Int32) then (if (p0 &&& (2 : Int32)) = (0 : Int32) then (if (p0 &&& (1 : Int32)) = (0 : Int32) then (0 : Int32) else (if (f_Int_compareUnsigned p1 p2) ≤ (0 : Int32) then (0 : Int32) else (1 : Int32))) else (if (f_Int_compareUnsigned p1 p2) < (0 : Int32) then (1 : Int32) else (if (p0 &&& (1 : Int32)) = (0 : Int32) then (0 : Int32) else (if (f_Int_compareUnsigned p1 p2) ≤ (0 : Int32) then (0 : Int32) else (1 : Int32))))) else (if (f_Int_compare p1 p2) = (0 : Int32) then (1 : Int32) else (if (p0 &&& (2 : Int32)) = (0 : Int32) then (if (p0 &&& (1 : Int32)) = (0 : Int32) then (0 : Int32) else (if (f_Int_compareUnsigned p1 p2) ≤ (0 : Int32) then (0 : Int32) else (1 : Int32))) else (if (f_Int_compareUnsigned p1 p2) < (0 : Int32) then (1 : Int32) else (if (p0 &&& (1 : Int32)) = (0 : Int32) then (0 : Int32) else (if (f_Int_compareUnsigned p1 p2) ≤ (0 : Int32) then (0 : Int32) else (1 : Int32))))))))) else (if (f_Int_compare p1 p2) < (0 : Int32) then (1 : Int32) else (if (p0 &&& (8 : Int32)) = (0 : Int32) then (if (p0 &&& (4 : Int32)) = (0 : Int32) then (if (p0 &&& (2 : Int32)) = (0 : Int32) then (if (p0 &&& (1 : Int32)) = (0 : Int32) then (0 : Int32) else (if (f_Int_compareUnsigned p1 p2) ≤ (0 : Int32) then (0 : Int32) else (1 : Int32))) else (if (f_Int_compareUnsigned p1 p2) < (0 : Int32) then (1 : Int32) else (if (p0 &&& (1 : Int32)) = (0 : Int32) then (0 : Int32) else (if (f_Int_compareUnsigned p1 p2) ≤ (0 : Int32) then (0 : Int32) else (1 : Int32))))) else (if (f_Int_compare p1 p2) = (0 : Int32) then (1 : Int32) else (if (p0 &&& (2 : Int32)) = (0 : Int32) then (if (p0 &&& (1 : Int32)) = (0 : Int32) then (0 : Int32) else (if (f_Int_compareUnsigned p1 p2) ≤ (0 : Int32) then (0 : Int32) else (1 : Int32))) else (if (f_Int_compareUnsigned p1 p2) < (0 : Int32) then (1 : Int32) else (if (p0 &&& (1 : Int32)) = (0 : Int32) then (0 : Int32) else (if (f_Int_compareUnsigned p1 p2) ≤ (0 : Int32) then (0 : Int32) else (1 : Int32))))))) else (if (0 : Int32) < (f_Int_compare p1 p2) then (1 : Int32) else (if (p0 &&& (4 : Int32)) = (0 : Int32) then (if (p0 &&& (2 : Int32)) = (0 : Int32) then (if (p0 &&& (1 : Int32)) = (0 : Int32) then (0 : Int32) else (if (f_Int_compareUnsigned p1 p2) ≤ (0 : Int32) then (0 : Int32) else (1 : Int32))) else (if (f_Int_compareUnsigned p1 p2) < (0 : Int32) then (1 : Int32) else (if (p0 &&& (1 : Int32)) = (0 : Int32) then (0 : Int32) else (if (f_Int_compareUnsigned p1 p2) ≤ (0 : Int32) then (0 : Int32) else (1 : Int32))))) else (if (f_Int_compare p1 p2) = (0 : Int32) then (1 : Int32) else (if (p0 &&& (2 : Int32)) = (0 : Int32) then (if (p0 &&& (1 : Int32)) = (0 : Int32) then (0 : Int32) else (if (f_Int_compareUnsigned p1 p2) ≤ (0 : Int32) then (0 : Int32) else (1 : Int32))) else (if (f_Int_compareUnsigned p1 p2) < (0 : Int32) then (1 : Int32) else (if (p0 &&& (1 : Int32)) = (0 : Int32) then (0 : Int32) else (if (f_Int_compareUnsigned p1 p2) ≤ (0 : Int32) then (0 : Int32) else (1 : Int32))))))))))) = (0 : Int32)) => ?_)
  · have ef : f_Cmp_trap p0 p1 p2 sp nx lt ex = (sp, nx, lt, ex) := by unfold f_Cmp_trap; try dsimp only; rw [if_pos h314]
    exact k_vret hx hb hr hlocks hK hP hD hS [0, 1, 2, 3] rfl (by rw [ef] <;> rfl) d_Cmp_trap_95
  · refine lv_aload_n hx hb d_Cmp_trap_83 rfl (lv_at hl 3 rfl) ?_
    refine va_get (D := D) (ci := 3) (v := .ref aS) (C := "MappedProcessor$Comparisons") (T := T_Cmp) (N := 1) hx hb hB iw_Cmp hown hK hP 3 rfl rfl 0 (by decide) (hB _ mw_149) (fun _ h9 => h9) rfl d_Cmp_trap_84 ?_
    refine lv_sipush (v := (1792 : Int32)) hx hb d_Cmp_trap_87 (by decide) ?_
    refine lv_ldc (v := (131072 : Int32)) hx hb hown (hB _ mw_391) d_Cmp_trap_90 ?_
    let t315 := (f_Sta_raise (1792 : Int32) (131072 : Int32) sp ex)
    refine k_cVv (As := [.int (1792 : Int32), .int (131072 : Int32)]) (rest := []) (wr := [(aC, .inr (3, [.ref aS]))]) (wj := [(aS, .inr (9, [.ref aG, .ref aX, .int t315.2.1, .int t315.2.2.1, .int sm, .int t315.2.2.2])), (aG, .inl (cG, 32, .inl g)), (aX, .inl (cX, 64, .inl t315.1)), (aC, .inr (3, [.ref aS]))]) ⟨hx, hb, hml, hown, hB⟩ (c_Sta_raise l D aS aG aX cG cX g sp nx lt sm ex (1792 : Int32) (131072 : Int32)) yl_Sta_raise mw_392 hK hN hP hD hS hA [0, 1] [0, 1, 2] [3] [1, 2, 3, 0] rfl rfl rfl rfl (by decide +kernel) 0 rfl rfl rfl rfl hl.1 rfl (Nat.le_of_ble_eq_true rfl) ⟨Nat.le_of_ble_eq_true rfl, Nat.le_of_ble_eq_true rfl⟩ d_Cmp_trap_92 ⟨Nat.le_of_ble_eq_true rfl, Nat.le_of_ble_eq_true rfl⟩ (fun H locs hP hD hS => ?_)
    have ef : f_Cmp_trap p0 p1 p2 sp nx lt ex = (t315.1, t315.2.1, t315.2.2.1, t315.2.2.2) := by unfold f_Cmp_trap; try dsimp only; rw [if_neg h314]
    exact k_vret hx hb hr hlocks hK hP hD hS [0, 1, 2, 3] rfl (by rw [ef] <;> rfl) d_Cmp_trap_95
/-! MappedProcessor$Comparisons.runsImmediate(LMappedProcessor$Instruction;)Z -/
theorem d_Cmp_runsImmediate_0 : decode b_Cmp_runsImmediate 0 = .ok (.aload_n 0, 1) := by decide +kernel
theorem d_Cmp_runsImmediate_1 : decode b_Cmp_runsImmediate 1 = .ok (.getfield 9, 3) := by decide +kernel
theorem d_Cmp_runsImmediate_4 : decode b_Cmp_runsImmediate 4 = .ok (.aload_n 1, 1) := by decide +kernel
theorem d_Cmp_runsImmediate_5 : decode b_Cmp_runsImmediate 5 = .ok (.getfield 15, 3) := by decide +kernel
theorem d_Cmp_runsImmediate_8 : decode b_Cmp_runsImmediate 8 = .ok (.invokevirtual 21, 3) := by decide +kernel
theorem d_Cmp_runsImmediate_11 : decode b_Cmp_runsImmediate 11 = .ok (.istore_n 2, 1) := by decide +kernel
theorem d_Cmp_runsImmediate_12 : decode b_Cmp_runsImmediate 12 = .ok (.aload_n 1, 1) := by decide +kernel
theorem d_Cmp_runsImmediate_13 : decode b_Cmp_runsImmediate 13 = .ok (.getfield 27, 3) := by decide +kernel
theorem d_Cmp_runsImmediate_16 : decode b_Cmp_runsImmediate 16 = .ok (.lookupswitch 97 #[(3, 36), (10, 51), (11, 74)], 36) := by decide +kernel
theorem d_Cmp_runsImmediate_52 : decode b_Cmp_runsImmediate 52 = .ok (.aload_n 0, 1) := by decide +kernel
theorem d_Cmp_runsImmediate_53 : decode b_Cmp_runsImmediate 53 = .ok (.aload_n 1, 1) := by decide +kernel
theorem d_Cmp_runsImmediate_54 : decode b_Cmp_runsImmediate 54 = .ok (.getfield 30, 3) := by decide +kernel
theorem d_Cmp_runsImmediate_57 : decode b_Cmp_runsImmediate 57 = .ok (.iload_n 2, 1) := by decide +kernel
theorem d_Cmp_runsImmediate_58 : decode b_Cmp_runsImmediate 58 = .ok (.aload_n 1, 1) := by decide +kernel
theorem d_Cmp_runsImmediate_59 : decode b_Cmp_runsImmediate 59 = .ok (.getfield 33, 3) := by decide +kernel
theorem d_Cmp_runsImmediate_62 : decode b_Cmp_runsImmediate 62 = .ok (.invokevirtual 36, 3) := by decide +kernel
theorem d_Cmp_runsImmediate_65 : decode b_Cmp_runsImmediate 65 = .ok (.iconst 1, 1) := by decide +kernel
theorem d_Cmp_runsImmediate_66 : decode b_Cmp_runsImmediate 66 = .ok (.ireturn, 1) := by decide +kernel
theorem d_Cmp_runsImmediate_67 : decode b_Cmp_runsImmediate 67 = .ok (.aload_n 0, 1) := by decide +kernel
theorem d_Cmp_runsImmediate_68 : decode b_Cmp_runsImmediate 68 = .ok (.getfield 9, 3) := by decide +kernel
theorem d_Cmp_runsImmediate_71 : decode b_Cmp_runsImmediate 71 = .ok (.aload_n 1, 1) := by decide +kernel
theorem d_Cmp_runsImmediate_72 : decode b_Cmp_runsImmediate 72 = .ok (.getfield 30, 3) := by decide +kernel
theorem d_Cmp_runsImmediate_75 : decode b_Cmp_runsImmediate 75 = .ok (.iconst 2, 1) := by decide +kernel
theorem d_Cmp_runsImmediate_76 : decode b_Cmp_runsImmediate 76 = .ok (.ishr, 1) := by decide +kernel
theorem d_Cmp_runsImmediate_77 : decode b_Cmp_runsImmediate 77 = .ok (.iload_n 2, 1) := by decide +kernel
theorem d_Cmp_runsImmediate_78 : decode b_Cmp_runsImmediate 78 = .ok (.aload_n 1, 1) := by decide +kernel
theorem d_Cmp_runsImmediate_79 : decode b_Cmp_runsImmediate 79 = .ok (.getfield 40, 3) := by decide +kernel
theorem d_Cmp_runsImmediate_82 : decode b_Cmp_runsImmediate 82 = .ok (.invokestatic 43, 3) := by decide +kernel
theorem d_Cmp_runsImmediate_85 : decode b_Cmp_runsImmediate 85 = .ok (.invokevirtual 49, 3) := by decide +kernel
theorem d_Cmp_runsImmediate_88 : decode b_Cmp_runsImmediate 88 = .ok (.iconst 1, 1) := by decide +kernel
theorem d_Cmp_runsImmediate_89 : decode b_Cmp_runsImmediate 89 = .ok (.ireturn, 1) := by decide +kernel
theorem d_Cmp_runsImmediate_90 : decode b_Cmp_runsImmediate 90 = .ok (.aload_n 0, 1) := by decide +kernel
theorem d_Cmp_runsImmediate_91 : decode b_Cmp_runsImmediate 91 = .ok (.getfield 9, 3) := by decide +kernel
theorem d_Cmp_runsImmediate_94 : decode b_Cmp_runsImmediate 94 = .ok (.aload_n 1, 1) := by decide +kernel
theorem d_Cmp_runsImmediate_95 : decode b_Cmp_runsImmediate 95 = .ok (.getfield 30, 3) := by decide +kernel
theorem d_Cmp_runsImmediate_98 : decode b_Cmp_runsImmediate 98 = .ok (.iconst 2, 1) := by decide +kernel
theorem d_Cmp_runsImmediate_99 : decode b_Cmp_runsImmediate 99 = .ok (.ishr, 1) := by decide +kernel
theorem d_Cmp_runsImmediate_100 : decode b_Cmp_runsImmediate 100 = .ok (.iload_n 2, 1) := by decide +kernel
theorem d_Cmp_runsImmediate_101 : decode b_Cmp_runsImmediate 101 = .ok (.aload_n 1, 1) := by decide +kernel
theorem d_Cmp_runsImmediate_102 : decode b_Cmp_runsImmediate 102 = .ok (.getfield 33, 3) := by decide +kernel
theorem d_Cmp_runsImmediate_105 : decode b_Cmp_runsImmediate 105 = .ok (.invokestatic 53, 3) := by decide +kernel
theorem d_Cmp_runsImmediate_108 : decode b_Cmp_runsImmediate 108 = .ok (.invokevirtual 49, 3) := by decide +kernel
theorem d_Cmp_runsImmediate_111 : decode b_Cmp_runsImmediate 111 = .ok (.iconst 1, 1) := by decide +kernel
theorem d_Cmp_runsImmediate_112 : decode b_Cmp_runsImmediate 112 = .ok (.ireturn, 1) := by decide +kernel
theorem d_Cmp_runsImmediate_113 : decode b_Cmp_runsImmediate 113 = .ok (.iconst 0, 1) := by decide +kernel
theorem d_Cmp_runsImmediate_114 : decode b_Cmp_runsImmediate 114 = .ok (.ireturn, 1) := by decide +kernel
def f_Cmp_runsImmediate (g : Nat → Int32) (sp : Nat → Int32) (nx : Int32) (lt : Int32) (ex : Int32) (io : Int32) (id : Int32) (ia : Int32) (is : Int32) (iu : Int32) : Int32 × (Nat → Int32) × Int32 × Int32 × Int32 :=
  if io = (3 : Int32) then
    let t2 := (f_Cmp_trap id (f_Sta_register ia g) is sp nx lt ex)
    ((1 : Int32), t2.1, t2.2.1, t2.2.2.1, t2.2.2.2)
  else
    if io = (10 : Int32) then
      ((1 : Int32), (f_Sta_keepOrder (shr id (2 : Int32)) (f_Int_compareUnsigned (f_Sta_register ia g) iu) sp), nx, lt, ex)
    else
      if io = (11 : Int32) then
        ((1 : Int32), (f_Sta_keepOrder (shr id (2 : Int32)) (f_Int_compare (f_Sta_register ia g) is) sp), nx, lt, ex)
      else
        ((0 : Int32), sp, nx, lt, ex)
set_option maxHeartbeats 4000000 in
set_option maxRecDepth 100000 in
theorem ib_Cmp_runsImmediate (g : Nat → Int32) (sp : Nat → Int32) (nx : Int32) (lt : Int32) (ex : Int32) (io : Int32) (id : Int32) (ia : Int32) (is : Int32) (iu : Int32) : isB (f_Cmp_runsImmediate g sp nx lt ex io id ia is iu).1 := by
  unfold f_Cmp_runsImmediate
  try dsimp only
  repeat' (first | refine ib_ite ?_ ?_ | refine ib_ite0 ?_ ?_ | with_reducible exact ib0 | with_reducible exact ib1 | (dsimp only; first | exact ib0 | exact ib1))
theorem nb_Cmp_runsImmediate (g : Nat → Int32) (sp : Nat → Int32) (nx : Int32) (lt : Int32) (ex : Int32) (io : Int32) (id : Int32) (ia : Int32) (is : Int32) (iu : Int32) : narrow .boolean (.int (f_Cmp_runsImmediate g sp nx lt ex io id ia is iu).1) = .int (f_Cmp_runsImmediate g sp nx lt ex io id ia is iu).1 := nb_of (ib_Cmp_runsImmediate g sp nx lt ex io id ia is iu)
set_option maxHeartbeats 4000000 in
set_option maxRecDepth 100000 in
theorem c_Cmp_runsImmediate (l : Launch) (D : va_G) (aS aG aX aI aC : Nat) (cG cX : ClassId) (g : Nat → Int32) (sp : Nat → Int32) (nx : Int32) (lt : Int32) (sm : Int32) (ex : Int32) (iw : Int32) (io : Int32) (id : Int32) (ia : Int32) (ib : Int32) (ii : Int32) (is : Int32) (iu : Int32) (_q0 : Nat) : kMi l y_Cmp_runsImmediate b_Cmp_runsImmediate 3 (some .boolean) 3 68 D kCl [(cG, .int), (cX, .int)] [.ref aC, .ref aI] [(aS, .inr (9, [.ref aG, .ref aX, .int nx, .int lt, .int sm, .int ex])), (aG, .inl (cG, 32, .inl g)), (aX, .inl (cX, 64, .inl sp)), (aI, .inr (5, [.int iw, .int io, .int id, .int ia, .int ib, .int ii, .int is, .int iu])), (aC, .inr (3, [.ref aS]))] (f_Cmp_runsImmediate g sp nx lt ex io id ia is iu).1 [(aS, .inr (9, [.ref aG, .ref aX, .int (f_Cmp_runsImmediate g sp nx lt ex io id ia is iu).2.2.1, .int (f_Cmp_runsImmediate g sp nx lt ex io id ia is iu).2.2.2.1, .int sm, .int (f_Cmp_runsImmediate g sp nx lt ex io id ia is iu).2.2.2.2])), (aG, .inl (cG, 32, .inl g)), (aX, .inl (cX, 64, .inl (f_Cmp_runsImmediate g sp nx lt ex io id ia is iu).2.1)), (aI, .inr (5, [.int iw, .int io, .int id, .int ia, .int ib, .int ii, .int is, .int iu])), (aC, .inr (3, [.ref aS]))] := by
  refine k_entry (Qc := fun A => kQi D kCl [(cG, .int), (cX, .int)] (f_Cmp_runsImmediate g sp nx lt ex io id ia is iu).1 [(aS, .inr (9, [.ref aG, .ref aX, .int (f_Cmp_runsImmediate g sp nx lt ex io id ia is iu).2.2.1, .int (f_Cmp_runsImmediate g sp nx lt ex io id ia is iu).2.2.2.1, .int sm, .int (f_Cmp_runsImmediate g sp nx lt ex io id ia is iu).2.2.2.2])), (aG, .inl (cG, 32, .inl g)), (aX, .inl (cX, 64, .inl (f_Cmp_runsImmediate g sp nx lt ex io id ia is iu).2.1)), (aI, .inr (5, [.int iw, .int io, .int id, .int ia, .int ib, .int ii, .int is, .int iu])), (aC, .inr (3, [.ref aS]))] A) (lv := [(0, .ref aC), (1, .ref aI)]) (by decide) (Nat.le_of_ble_eq_true rfl) rfl ?_
  intro p e s m below meth c A ls hx hb hr hml hB hown hlocks hin hA hK hN hP hD hS hl
  have hown : s.vm.findClass "MappedProcessor$Comparisons" = some m.cls := hown
  refine lv_aload_n hx hb d_Cmp_runsImmediate_0 rfl (lv_at hl 0 rfl) ?_
  refine va_get (D := D) (ci := 3) (v := .ref aS) (C := "MappedProcessor$Comparisons") (T := T_Cmp) (N := 1) hx hb hB iw_Cmp hown hK hP 4 rfl rfl 0 (by decide) (hB _ mw_149) (fun _ h9 => h9) rfl d_Cmp_runsImmediate_1 ?_
  refine lv_aload_n hx hb d_Cmp_runsImmediate_4 rfl (lv_at hl 1 rfl) ?_
  refine va_get (D := D) (ci := 5) (v := .int ia) (C := "MappedProcessor$Instruction") (T := T_Ins) (N := 8) hx hb hB iw_Ins hown hK hP 3 rfl rfl 3 (by decide) (hB _ mw_97) (fun _ h9 => h9) rfl d_Cmp_runsImmediate_5 ?_
  refine k_cVi (As := [.int ia]) (rest := []) (wr := [(aI, .inr (5, [.int iw, .int io, .int id, .int ia, .int ib, .int ii, .int is, .int iu])), (aC, .inr (3, [.ref aS]))]) (wj := [(aS, .inr (9, [.ref aG, .ref aX, .int nx, .int lt, .int sm, .int ex])), (aG, .inl (cG, 32, .inl g)), (aX, .inl (cX, 64, .inl sp)), (aI, .inr (5, [.int iw, .int io, .int id, .int ia, .int ib, .int ii, .int is, .int iu])), (aC, .inr (3, [.ref aS]))]) ⟨hx, hb, hml, hown, hB⟩ (c_Sta_register l D aS aG aX cG cX g sp nx lt sm ex ia) yl_Sta_register mw_378 hK hN hP hD hS hA [0, 1] [0, 1, 2] [3, 4] [2, 3, 4, 0, 1] rfl rfl rfl rfl (by decide +kernel) 0 rfl rfl rfl rfl hl.1 rfl (Nat.le_of_ble_eq_true rfl) ⟨Nat.le_of_ble_eq_true rfl, Nat.le_of_ble_eq_true rfl⟩ d_Cmp_runsImmediate_8 ⟨Nat.le_of_ble_eq_true rfl, Nat.le_of_ble_eq_true rfl⟩ (fun H locs hP hD hS => ?_)
  refine lv_istore_n (lv' := [(2, .int (f_Sta_register ia g)), (0, .ref aC), (1, .ref aI)]) hx hb d_Cmp_runsImmediate_11 rfl hl (by decide) rfl (fun ls hl => ?_)
  refine lv_aload_n hx hb d_Cmp_runsImmediate_12 rfl (lv_at hl 2 rfl) ?_
  refine va_get (D := D) (ci := 5) (v := .int io) (C := "MappedProcessor$Instruction") (T := T_Ins) (N := 8) hx hb hB iw_Ins hown hK hP 3 rfl rfl 1 (by decide) (hB _ mw_86) (fun _ h9 => h9) rfl d_Cmp_runsImmediate_13 ?_
  by_cases h1 : io = (3 : Int32)
  · refine lv_lookup (off := 36) (tgt := 52) hx hb d_Cmp_runsImmediate_16 (by decide) (by have hq9 := h1 <;> rw [hq9] <;> rfl) (by decide) ?_
    refine lv_aload_n hx hb d_Cmp_runsImmediate_52 rfl (lv_at hl 1 rfl) ?_
    refine lv_aload_n hx hb d_Cmp_runsImmediate_53 rfl (lv_at hl 2 rfl) ?_
    refine va_get (D := D) (ci := 5) (v := .int id) (C := "MappedProcessor$Instruction") (T := T_Ins) (N := 8) hx hb hB iw_Ins hown hK hP 3 rfl rfl 2 (by decide) (hB _ mw_94) (fun _ h9 => h9) rfl d_Cmp_runsImmediate_54 ?_
    refine lv_iload_n hx hb d_Cmp_runsImmediate_57 rfl (lv_at hl 0 rfl) ?_
    refine lv_aload_n hx hb d_Cmp_runsImmediate_58 rfl (lv_at hl 2 rfl) ?_
    refine va_get (D := D) (ci := 5) (v := .int is) (C := "MappedProcessor$Instruction") (T := T_Ins) (N := 8) hx hb hB iw_Ins hown hK hP 3 rfl rfl 6 (by decide) (hB _ mw_120) (fun _ h9 => h9) rfl d_Cmp_runsImmediate_59 ?_
    let t2 := (f_Cmp_trap id (f_Sta_register ia g) is sp nx lt ex)
    refine k_cVv (As := [.int id, .int (f_Sta_register ia g), .int is]) (rest := []) (wr := [(aI, .inr (5, [.int iw, .int io, .int id, .int ia, .int ib, .int ii, .int is, .int iu]))]) (wj := [(aS, .inr (9, [.ref aG, .ref aX, .int t2.2.1, .int t2.2.2.1, .int sm, .int t2.2.2.2])), (aG, .inl (cG, 32, .inl g)), (aX, .inl (cX, 64, .inl t2.1)), (aI, .inr (5, [.int iw, .int io, .int id, .int ia, .int ib, .int ii, .int is, .int iu])), (aC, .inr (3, [.ref aS]))]) ⟨hx, hb, hml, hown, hB⟩ (c_Cmp_trap l D aS aG aX aC cG cX g sp nx lt sm ex id (f_Sta_register ia g) is) yl_Cmp_trap mw_379 hK hN hP hD hS hA [0, 1] [0, 1, 2, 4] [3] [1, 2, 3, 0, 4] rfl rfl rfl rfl (by decide +kernel) 3 rfl rfl rfl rfl hl.1 rfl (Nat.le_of_ble_eq_true rfl) ⟨Nat.le_of_ble_eq_true rfl, Nat.le_of_ble_eq_true rfl⟩ d_Cmp_runsImmediate_62 ⟨Nat.le_of_ble_eq_true rfl, Nat.le_of_ble_eq_true rfl⟩ (fun H locs hP hD hS => ?_)
    refine lv_iconst (v := (1 : Int32)) hx hb d_Cmp_runsImmediate_65 (by decide) ?_
    have ef : f_Cmp_runsImmediate g sp nx lt ex io id ia is iu = ((1 : Int32), t2.1, t2.2.1, t2.2.2.1, t2.2.2.2) := by unfold f_Cmp_runsImmediate; try dsimp only; rw [if_pos h1]
    exact k_zret hx hb hr hlocks hK hP hD hS [0, 1, 2, 3, 4] rfl (by rw [ef] <;> rfl) (by rw [ef] <;> rfl) nb1 d_Cmp_runsImmediate_66
  · by_cases h3 : io = (10 : Int32)
    · refine lv_lookup (off := 51) (tgt := 67) hx hb d_Cmp_runsImmediate_16 (by decide) (by have hq9 := h3 <;> rw [hq9] <;> rfl) (by decide) ?_
      refine lv_aload_n hx hb d_Cmp_runsImmediate_67 rfl (lv_at hl 1 rfl) ?_
      refine va_get (D := D) (ci := 3) (v := .ref aS) (C := "MappedProcessor$Comparisons") (T := T_Cmp) (N := 1) hx hb hB iw_Cmp hown hK hP 4 rfl rfl 0 (by decide) (hB _ mw_149) (fun _ h9 => h9) rfl d_Cmp_runsImmediate_68 ?_
      refine lv_aload_n hx hb d_Cmp_runsImmediate_71 rfl (lv_at hl 2 rfl) ?_
      refine va_get (D := D) (ci := 5) (v := .int id) (C := "MappedProcessor$Instruction") (T := T_Ins) (N := 8) hx hb hB iw_Ins hown hK hP 3 rfl rfl 2 (by decide) (hB _ mw_94) (fun _ h9 => h9) rfl d_Cmp_runsImmediate_72 ?_
      refine lv_iconst (v := (2 : Int32)) hx hb d_Cmp_runsImmediate_75 (by decide) ?_
      refine lv_ishr hx hb d_Cmp_runsImmediate_76 ?_
      refine lv_iload_n hx hb d_Cmp_runsImmediate_77 rfl (lv_at hl 0 rfl) ?_
      refine lv_aload_n hx hb d_Cmp_runsImmediate_78 rfl (lv_at hl 2 rfl) ?_
      refine va_get (D := D) (ci := 5) (v := .int iu) (C := "MappedProcessor$Instruction") (T := T_Ins) (N := 8) hx hb hB iw_Ins hown hK hP 3 rfl rfl 7 (by decide) (hB _ mw_125) (fun _ h9 => h9) rfl d_Cmp_runsImmediate_79 ?_
      refine k_cSi (As := [.int (f_Sta_register ia g), .int iu]) (rest := [.int (shr id (2 : Int32)), .ref aS]) (wr := [(aS, .inr (9, [.ref aG, .ref aX, .int nx, .int lt, .int sm, .int ex])), (aG, .inl (cG, 32, .inl g)), (aX, .inl (cX, 64, .inl sp)), (aI, .inr (5, [.int iw, .int io, .int id, .int ia, .int ib, .int ii, .int is, .int iu])), (aC, .inr (3, [.ref aS]))]) (wj := [(aS, .inr (9, [.ref aG, .ref aX, .int nx, .int lt, .int sm, .int ex])), (aG, .inl (cG, 32, .inl g)), (aX, .inl (cX, 64, .inl sp)), (aI, .inr (5, [.int iw, .int io, .int id, .int ia, .int ib, .int ii, .int is, .int iu])), (aC, .inr (3, [.ref aS]))]) ⟨hx, hb, hml, hown, hB⟩ (c_Int_compareUnsigned l D (f_Sta_register ia g) iu) yl_Int_compareUnsigned mw_386 hK hN hP hD hS hA [] [] [0, 1, 2, 3, 4] [0, 1, 2, 3, 4] rfl rfl rfl rfl (by decide +kernel) rfl hl.1 rfl (Nat.le_of_ble_eq_true rfl) ⟨Nat.le_of_ble_eq_true rfl, Nat.le_of_ble_eq_true rfl⟩ d_Cmp_runsImmediate_82 ⟨Nat.le_of_ble_eq_true rfl, Nat.le_of_ble_eq_true rfl⟩ (fun H locs hP hD hS => ?_)
      refine k_cVv (As := [.int (shr id (2 : Int32)), .int (f_Int_compareUnsigned (f_Sta_register ia g) iu)]) (rest := []) (wr := [(aI, .inr (5, [.int iw, .int io, .int id, .int ia, .int ib, .int ii, .int is, .int iu])), (aC, .inr (3, [.ref aS]))]) (wj := [(aS, .inr (9, [.ref aG, .ref aX, .int nx, .int lt, .int sm, .int ex])), (aG, .inl (cG, 32, .inl g)), (aX, .inl (cX, 64, .inl (f_Sta_keepOrder (shr id (2 : Int32)) (f_Int_compareUnsigned (f_Sta_register ia g) iu) sp))), (aI, .inr (5, [.int iw, .int io, .int id, .int ia, .int ib, .int ii, .int is, .int iu])), (aC, .inr (3, [.ref aS]))]) ⟨hx, hb, hml, hown, hB⟩ (c_Sta_keepOrder l D aS aG aX cG cX g sp nx lt sm ex (shr id (2 : Int32)) (f_Int_compareUnsigned (f_Sta_register ia g) iu)) yl_Sta_keepOrder mw_393 hK hN hP hD hS hA [0, 1] [0, 1, 2] [3, 4] [2, 3, 4, 0, 1] rfl rfl rfl rfl (by decide +kernel) 0 rfl rfl rfl rfl hl.1 rfl (Nat.le_of_ble_eq_true rfl) ⟨Nat.le_of_ble_eq_true rfl, Nat.le_of_ble_eq_true rfl⟩ d_Cmp_runsImmediate_85 ⟨Nat.le_of_ble_eq_true rfl, Nat.le_of_ble_eq_true rfl⟩ (fun H locs hP hD hS => ?_)
      refine lv_iconst (v := (1 : Int32)) hx hb d_Cmp_runsImmediate_88 (by decide) ?_
      have ef : f_Cmp_runsImmediate g sp nx lt ex io id ia is iu = ((1 : Int32), (f_Sta_keepOrder (shr id (2 : Int32)) (f_Int_compareUnsigned (f_Sta_register ia g) iu) sp), nx, lt, ex) := by unfold f_Cmp_runsImmediate; try dsimp only; rw [if_neg h1, if_pos h3]
      exact k_zret hx hb hr hlocks hK hP hD hS [0, 1, 2, 3, 4] rfl (by rw [ef] <;> rfl) (by rw [ef] <;> rfl) nb1 d_Cmp_runsImmediate_89
    · by_cases h4 : io = (11 : Int32)
      · refine lv_lookup (off := 74) (tgt := 90) hx hb d_Cmp_runsImmediate_16 (by decide) (by have hq9 := h4 <;> rw [hq9] <;> rfl) (by decide) ?_
        refine lv_aload_n hx hb d_Cmp_runsImmediate_90 rfl (lv_at hl 1 rfl) ?_
        refine va_get (D := D) (ci := 3) (v := .ref aS) (C := "MappedProcessor$Comparisons") (T := T_Cmp) (N := 1) hx hb hB iw_Cmp hown hK hP 4 rfl rfl 0 (by decide) (hB _ mw_149) (fun _ h9 => h9) rfl d_Cmp_runsImmediate_91 ?_
        refine lv_aload_n hx hb d_Cmp_runsImmediate_94 rfl (lv_at hl 2 rfl) ?_
        refine va_get (D := D) (ci := 5) (v := .int id) (C := "MappedProcessor$Instruction") (T := T_Ins) (N := 8) hx hb hB iw_Ins hown hK hP 3 rfl rfl 2 (by decide) (hB _ mw_94) (fun _ h9 => h9) rfl d_Cmp_runsImmediate_95 ?_
        refine lv_iconst (v := (2 : Int32)) hx hb d_Cmp_runsImmediate_98 (by decide) ?_
        refine lv_ishr hx hb d_Cmp_runsImmediate_99 ?_
        refine lv_iload_n hx hb d_Cmp_runsImmediate_100 rfl (lv_at hl 0 rfl) ?_
        refine lv_aload_n hx hb d_Cmp_runsImmediate_101 rfl (lv_at hl 2 rfl) ?_
        refine va_get (D := D) (ci := 5) (v := .int is) (C := "MappedProcessor$Instruction") (T := T_Ins) (N := 8) hx hb hB iw_Ins hown hK hP 3 rfl rfl 6 (by decide) (hB _ mw_120) (fun _ h9 => h9) rfl d_Cmp_runsImmediate_102 ?_
        refine k_cSi (As := [.int (f_Sta_register ia g), .int is]) (rest := [.int (shr id (2 : Int32)), .ref aS]) (wr := [(aS, .inr (9, [.ref aG, .ref aX, .int nx, .int lt, .int sm, .int ex])), (aG, .inl (cG, 32, .inl g)), (aX, .inl (cX, 64, .inl sp)), (aI, .inr (5, [.int iw, .int io, .int id, .int ia, .int ib, .int ii, .int is, .int iu])), (aC, .inr (3, [.ref aS]))]) (wj := [(aS, .inr (9, [.ref aG, .ref aX, .int nx, .int lt, .int sm, .int ex])), (aG, .inl (cG, 32, .inl g)), (aX, .inl (cX, 64, .inl sp)), (aI, .inr (5, [.int iw, .int io, .int id, .int ia, .int ib, .int ii, .int is, .int iu])), (aC, .inr (3, [.ref aS]))]) ⟨hx, hb, hml, hown, hB⟩ (c_Int_compare l D (f_Sta_register ia g) is) yl_Int_compare mw_383 hK hN hP hD hS hA [] [] [0, 1, 2, 3, 4] [0, 1, 2, 3, 4] rfl rfl rfl rfl (by decide +kernel) rfl hl.1 rfl (Nat.le_of_ble_eq_true rfl) ⟨Nat.le_of_ble_eq_true rfl, Nat.le_of_ble_eq_true rfl⟩ d_Cmp_runsImmediate_105 ⟨Nat.le_of_ble_eq_true rfl, Nat.le_of_ble_eq_true rfl⟩ (fun H locs hP hD hS => ?_)
        refine k_cVv (As := [.int (shr id (2 : Int32)), .int (f_Int_compare (f_Sta_register ia g) is)]) (rest := []) (wr := [(aI, .inr (5, [.int iw, .int io, .int id, .int ia, .int ib, .int ii, .int is, .int iu])), (aC, .inr (3, [.ref aS]))]) (wj := [(aS, .inr (9, [.ref aG, .ref aX, .int nx, .int lt, .int sm, .int ex])), (aG, .inl (cG, 32, .inl g)), (aX, .inl (cX, 64, .inl (f_Sta_keepOrder (shr id (2 : Int32)) (f_Int_compare (f_Sta_register ia g) is) sp))), (aI, .inr (5, [.int iw, .int io, .int id, .int ia, .int ib, .int ii, .int is, .int iu])), (aC, .inr (3, [.ref aS]))]) ⟨hx, hb, hml, hown, hB⟩ (c_Sta_keepOrder l D aS aG aX cG cX g sp nx lt sm ex (shr id (2 : Int32)) (f_Int_compare (f_Sta_register ia g) is)) yl_Sta_keepOrder mw_393 hK hN hP hD hS hA [0, 1] [0, 1, 2] [3, 4] [2, 3, 4, 0, 1] rfl rfl rfl rfl (by decide +kernel) 0 rfl rfl rfl rfl hl.1 rfl (Nat.le_of_ble_eq_true rfl) ⟨Nat.le_of_ble_eq_true rfl, Nat.le_of_ble_eq_true rfl⟩ d_Cmp_runsImmediate_108 ⟨Nat.le_of_ble_eq_true rfl, Nat.le_of_ble_eq_true rfl⟩ (fun H locs hP hD hS => ?_)
        refine lv_iconst (v := (1 : Int32)) hx hb d_Cmp_runsImmediate_111 (by decide) ?_
        have ef : f_Cmp_runsImmediate g sp nx lt ex io id ia is iu = ((1 : Int32), (f_Sta_keepOrder (shr id (2 : Int32)) (f_Int_compare (f_Sta_register ia g) is) sp), nx, lt, ex) := by unfold f_Cmp_runsImmediate; try dsimp only; rw [if_neg h1, if_neg h3, if_pos h4]
        exact k_zret hx hb hr hlocks hK hP hD hS [0, 1, 2, 3, 4] rfl (by rw [ef] <;> rfl) (by rw [ef] <;> rfl) nb1 d_Cmp_runsImmediate_112
      · refine lv_lookup (off := 97) (tgt := 113) hx hb d_Cmp_runsImmediate_16 (by decide) (by rw [lv_osw (k := (3 : Int32)) h1 (by decide), lv_osw (k := (10 : Int32)) h3 (by decide), lv_osw (k := (11 : Int32)) h4 (by decide)]; rfl) (by decide) ?_
        refine lv_iconst (v := (0 : Int32)) hx hb d_Cmp_runsImmediate_113 (by decide) ?_
        have ef : f_Cmp_runsImmediate g sp nx lt ex io id ia is iu = ((0 : Int32), sp, nx, lt, ex) := by unfold f_Cmp_runsImmediate; try dsimp only; rw [if_neg h1, if_neg h3, if_neg h4]
        exact k_zret hx hb hr hlocks hK hP hD hS [0, 1, 2, 3, 4] rfl (by rw [ef] <;> rfl) (by rw [ef] <;> rfl) nb0 d_Cmp_runsImmediate_114
/-! MappedProcessor$Arithmetic.sumWithCarry(III)I -/
theorem d_Ari_sumWithCarry_0 : decode b_Ari_sumWithCarry 0 = .ok (.iload_n 1, 1) := by decide +kernel
theorem d_Ari_sumWithCarry_1 : decode b_Ari_sumWithCarry 1 = .ok (.i2l, 1) := by decide +kernel
theorem d_Ari_sumWithCarry_2 : decode b_Ari_sumWithCarry 2 = .ok (.ldc2_w 52, 3) := by decide +kernel
theorem d_Ari_sumWithCarry_5 : decode b_Ari_sumWithCarry 5 = .ok (.land, 1) := by decide +kernel
theorem d_Ari_sumWithCarry_6 : decode b_Ari_sumWithCarry 6 = .ok (.iload_n 2, 1) := by decide +kernel
theorem d_Ari_sumWithCarry_7 : decode b_Ari_sumWithCarry 7 = .ok (.i2l, 1) := by decide +kernel
theorem d_Ari_sumWithCarry_8 : decode b_Ari_sumWithCarry 8 = .ok (.ldc2_w 52, 3) := by decide +kernel
theorem d_Ari_sumWithCarry_11 : decode b_Ari_sumWithCarry 11 = .ok (.land, 1) := by decide +kernel
theorem d_Ari_sumWithCarry_12 : decode b_Ari_sumWithCarry 12 = .ok (.ladd, 1) := by decide +kernel
theorem d_Ari_sumWithCarry_13 : decode b_Ari_sumWithCarry 13 = .ok (.iload_n 3, 1) := by decide +kernel
theorem d_Ari_sumWithCarry_14 : decode b_Ari_sumWithCarry 14 = .ok (.i2l, 1) := by decide +kernel
theorem d_Ari_sumWithCarry_15 : decode b_Ari_sumWithCarry 15 = .ok (.ladd, 1) := by decide +kernel
theorem d_Ari_sumWithCarry_16 : decode b_Ari_sumWithCarry 16 = .ok (.lstore 4, 2) := by decide +kernel
theorem d_Ari_sumWithCarry_18 : decode b_Ari_sumWithCarry 18 = .ok (.aload_n 0, 1) := by decide +kernel
theorem d_Ari_sumWithCarry_19 : decode b_Ari_sumWithCarry 19 = .ok (.getfield 7, 3) := by decide +kernel
theorem d_Ari_sumWithCarry_22 : decode b_Ari_sumWithCarry 22 = .ok (.lload 4, 2) := by decide +kernel
theorem d_Ari_sumWithCarry_24 : decode b_Ari_sumWithCarry 24 = .ok (.ldc2_w 52, 3) := by decide +kernel
theorem d_Ari_sumWithCarry_27 : decode b_Ari_sumWithCarry 27 = .ok (.lcmp, 1) := by decide +kernel
theorem d_Ari_sumWithCarry_28 : decode b_Ari_sumWithCarry 28 = .ok (.ifCond .le 7, 3) := by decide +kernel
theorem d_Ari_sumWithCarry_31 : decode b_Ari_sumWithCarry 31 = .ok (.iconst 1, 1) := by decide +kernel
theorem d_Ari_sumWithCarry_32 : decode b_Ari_sumWithCarry 32 = .ok (.goto 4, 3) := by decide +kernel
theorem d_Ari_sumWithCarry_35 : decode b_Ari_sumWithCarry 35 = .ok (.iconst 0, 1) := by decide +kernel
theorem d_Ari_sumWithCarry_36 : decode b_Ari_sumWithCarry 36 = .ok (.invokevirtual 67, 3) := by decide +kernel
theorem d_Ari_sumWithCarry_39 : decode b_Ari_sumWithCarry 39 = .ok (.lload 4, 2) := by decide +kernel
theorem d_Ari_sumWithCarry_41 : decode b_Ari_sumWithCarry 41 = .ok (.l2i, 1) := by decide +kernel
theorem d_Ari_sumWithCarry_42 : decode b_Ari_sumWithCarry 42 = .ok (.ireturn, 1) := by decide +kernel
def f_Ari_sumWithCarry (p0 : Int32) (p1 : Int32) (p2 : Int32) (sp : Nat → Int32) : Int32 × (Nat → Int32) :=
  ((((((p0.toInt64) &&& (4294967295 : Int64)) + ((p1.toInt64) &&& (4294967295 : Int64))) + (p2.toInt64)).toInt32), (f_Sta_keepCarry (if (lg_cmp ((((p0.toInt64) &&& (4294967295 : Int64)) + ((p1.toInt64) &&& (4294967295 : Int64))) + (p2.toInt64)) (4294967295 : Int64)) ≤ (0 : Int32) then (0 : Int32) else (1 : Int32)) sp))
set_option maxHeartbeats 4000000 in
set_option maxRecDepth 100000 in
theorem c_Ari_sumWithCarry (l : Launch) (D : va_G) (aS aG aX aR : Nat) (cG cX : ClassId) (g : Nat → Int32) (sp : Nat → Int32) (nx : Int32) (lt : Int32) (sm : Int32) (ex : Int32) (p0 : Int32) (p1 : Int32) (p2 : Int32) : kMi l y_Ari_sumWithCarry b_Ari_sumWithCarry 6 (some .int) 1 21 D kCl [(cG, .int), (cX, .int)] [.ref aR, .int p0, .int p1, .int p2] [(aS, .inr (9, [.ref aG, .ref aX, .int nx, .int lt, .int sm, .int ex])), (aG, .inl (cG, 32, .inl g)), (aX, .inl (cX, 64, .inl sp)), (aR, .inr (1, [.ref aS]))] (f_Ari_sumWithCarry p0 p1 p2 sp).1 [(aS, .inr (9, [.ref aG, .ref aX, .int nx, .int lt, .int sm, .int ex])), (aG, .inl (cG, 32, .inl g)), (aX, .inl (cX, 64, .inl (f_Ari_sumWithCarry p0 p1 p2 sp).2)), (aR, .inr (1, [.ref aS]))] := by
  refine k_entry (Qc := fun A => kQi D kCl [(cG, .int), (cX, .int)] (f_Ari_sumWithCarry p0 p1 p2 sp).1 [(aS, .inr (9, [.ref aG, .ref aX, .int nx, .int lt, .int sm, .int ex])), (aG, .inl (cG, 32, .inl g)), (aX, .inl (cX, 64, .inl (f_Ari_sumWithCarry p0 p1 p2 sp).2)), (aR, .inr (1, [.ref aS]))] A) (lv := [(0, .ref aR), (1, .int p0), (2, .int p1), (3, .int p2)]) (by decide) (Nat.le_of_ble_eq_true rfl) rfl ?_
  intro p e s m below meth c A ls hx hb hr hml hB hown hlocks hin hA hK hN hP hD hS hl
  have hown : s.vm.findClass "MappedProcessor$Arithmetic" = some m.cls := hown
  refine lv_iload_n hx hb d_Ari_sumWithCarry_0 rfl (lv_at hl 1 rfl) ?_
  refine lv_i2l (v := (p0.toInt64)) hx hb d_Ari_sumWithCarry_1 rfl ?_
  refine lv_ldc2 (v := (4294967295 : Int64)) hx hb hown (hB _ mw_406) d_Ari_sumWithCarry_2 ?_
  refine lv_land hx hb d_Ari_sumWithCarry_5 ?_
  refine lv_iload_n hx hb d_Ari_sumWithCarry_6 rfl (lv_at hl 2 rfl) ?_
  refine lv_i2l (v := (p1.toInt64)) hx hb d_Ari_sumWithCarry_7 rfl ?_
  refine lv_ldc2 (v := (4294967295 : Int64)) hx hb hown (hB _ mw_406) d_Ari_sumWithCarry_8 ?_
  refine lv_land hx hb d_Ari_sumWithCarry_11 ?_
  refine lv_ladd hx hb d_Ari_sumWithCarry_12 ?_
  refine lv_iload_n hx hb d_Ari_sumWithCarry_13 rfl (lv_at hl 3 rfl) ?_
  refine lv_i2l (v := (p2.toInt64)) hx hb d_Ari_sumWithCarry_14 rfl ?_
  refine lv_ladd hx hb d_Ari_sumWithCarry_15 ?_
  refine lv_lstore (lv' := [(4, .long ((((p0.toInt64) &&& (4294967295 : Int64)) + ((p1.toInt64) &&& (4294967295 : Int64))) + (p2.toInt64))), (0, .ref aR), (1, .int p0), (2, .int p1), (3, .int p2)]) hx hb d_Ari_sumWithCarry_16 hl (by decide) rfl (fun ls hl => ?_)
  refine lv_aload_n hx hb d_Ari_sumWithCarry_18 rfl (lv_at hl 1 rfl) ?_
  refine va_get (D := D) (ci := 1) (v := .ref aS) (C := "MappedProcessor$Arithmetic") (T := T_Ari) (N := 1) hx hb hB iw_Ari hown hK hP 3 rfl rfl 0 (by decide) (hB _ mw_159) (fun _ h9 => h9) rfl d_Ari_sumWithCarry_19 ?_
  refine lv_lload hx hb d_Ari_sumWithCarry_22 (lv_at hl 0 rfl) ?_
  refine lv_ldc2 (v := (4294967295 : Int64)) hx hb hown (hB _ mw_406) d_Ari_sumWithCarry_24 ?_
  refine W.lcmp hx hb d_Ari_sumWithCarry_27 ?_
  refine k_join2 (c0 := (lg_cmp ((((p0.toInt64) &&& (4294967295 : Int64)) + ((p1.toInt64) &&& (4294967295 : Int64))) + (p2.toInt64)) (4294967295 : Int64)) ≤ (0 : Int32)) (x1 := (0 : Int32)) (x2 := (1 : Int32)) (rest := [.ref aS]) 36 ?_ (fun k2 k3 => ?_)
  rotate_left
  · refine lv_if_le (tgt := 35) hx hb d_Ari_sumWithCarry_28 (by decide) (fun (h1 : (lg_cmp ((((p0.toInt64) &&& (4294967295 : Int64)) + ((p1.toInt64) &&& (4294967295 : Int64))) + (p2.toInt64)) (4294967295 : Int64)) ≤ (0 : Int32)) => ?_) (fun (h1 : ¬ (lg_cmp ((((p0.toInt64) &&& (4294967295 : Int64)) + ((p1.toInt64) &&& (4294967295 : Int64))) + (p2.toInt64)) (4294967295 : Int64)) ≤ (0 : Int32)) => ?_)
    · refine lv_iconst (v := (0 : Int32)) hx hb d_Ari_sumWithCarry_35 (by decide) ?_
      exact k2 h1
    · refine lv_iconst (v := (1 : Int32)) hx hb d_Ari_sumWithCarry_31 (by decide) ?_
      refine lv_goto (tgt := 36) hx hb d_Ari_sumWithCarry_32 (by decide) ?_
      exact k3 h1
  refine k_cVv (As := [.int (if (lg_cmp ((((p0.toInt64) &&& (4294967295 : Int64)) + ((p1.toInt64) &&& (4294967295 : Int64))) + (p2.toInt64)) (4294967295 : Int64)) ≤ (0 : Int32) then (0 : Int32) else (1 : Int32))]) (rest := []) (wr := [(aR, .inr (1, [.ref aS]))]) (wj := [(aS, .inr (9, [.ref aG, .ref aX, .int nx, .int lt, .int sm, .int ex])), (aG, .inl (cG, 32, .inl g)), (aX, .inl (cX, 64, .inl (f_Sta_keepCarry (if (lg_cmp ((((p0.toInt64) &&& (4294967295 : Int64)) + ((p1.toInt64) &&& (4294967295 : Int64))) + (p2.toInt64)) (4294967295 : Int64)) ≤ (0 : Int32) then (0 : Int32) else (1 : Int32)) sp))), (aR, .inr (1, [.ref aS]))]) ⟨hx, hb, hml, hown, hB⟩ (c_Sta_keepCarry l D aS aG aX cG cX g sp nx lt sm ex (if (lg_cmp ((((p0.toInt64) &&& (4294967295 : Int64)) + ((p1.toInt64) &&& (4294967295 : Int64))) + (p2.toInt64)) (4294967295 : Int64)) ≤ (0 : Int32) then (0 : Int32) else (1 : Int32))) yl_Sta_keepCarry mw_407 hK hN hP hD hS hA [0, 1] [0, 1, 2] [3] [1, 2, 3, 0] rfl rfl rfl rfl (by decide +kernel) 0 rfl rfl rfl rfl hl.1 rfl (Nat.le_of_ble_eq_true rfl) ⟨Nat.le_of_ble_eq_true rfl, Nat.le_of_ble_eq_true rfl⟩ d_Ari_sumWithCarry_36 ⟨Nat.le_of_ble_eq_true rfl, Nat.le_of_ble_eq_true rfl⟩ (fun H locs hP hD hS => ?_)
  refine lv_lload hx hb d_Ari_sumWithCarry_39 (lv_at hl 0 rfl) ?_
  refine lv_l2i (v := (((((p0.toInt64) &&& (4294967295 : Int64)) + ((p1.toInt64) &&& (4294967295 : Int64))) + (p2.toInt64)).toInt32)) hx hb d_Ari_sumWithCarry_41 rfl ?_
  have ef : f_Ari_sumWithCarry p0 p1 p2 sp = ((((((p0.toInt64) &&& (4294967295 : Int64)) + ((p1.toInt64) &&& (4294967295 : Int64))) + (p2.toInt64)).toInt32), (f_Sta_keepCarry (if (lg_cmp ((((p0.toInt64) &&& (4294967295 : Int64)) + ((p1.toInt64) &&& (4294967295 : Int64))) + (p2.toInt64)) (4294967295 : Int64)) ≤ (0 : Int32) then (0 : Int32) else (1 : Int32)) sp)) := rfl
  exact k_iret hx hb hr hlocks hK hP hD hS [0, 1, 2, 3] rfl (by rw [ef] <;> rfl) (by rw [ef] <;> rfl) d_Ari_sumWithCarry_42
/-! MappedProcessor$Arithmetic.runsImmediate(LMappedProcessor$Instruction;)Z -/
theorem d_Ari_runsImmediate_0 : decode b_Ari_runsImmediate 0 = .ok (.aload_n 0, 1) := by decide +kernel
theorem d_Ari_runsImmediate_1 : decode b_Ari_runsImmediate 1 = .ok (.getfield 7, 3) := by decide +kernel
theorem d_Ari_runsImmediate_4 : decode b_Ari_runsImmediate 4 = .ok (.aload_n 1, 1) := by decide +kernel
theorem d_Ari_runsImmediate_5 : decode b_Ari_runsImmediate 5 = .ok (.getfield 13, 3) := by decide +kernel
theorem d_Ari_runsImmediate_8 : decode b_Ari_runsImmediate 8 = .ok (.invokevirtual 19, 3) := by decide +kernel
theorem d_Ari_runsImmediate_11 : decode b_Ari_runsImmediate 11 = .ok (.istore_n 2, 1) := by decide +kernel
theorem d_Ari_runsImmediate_12 : decode b_Ari_runsImmediate 12 = .ok (.aload_n 1, 1) := by decide +kernel
theorem d_Ari_runsImmediate_13 : decode b_Ari_runsImmediate 13 = .ok (.getfield 25, 3) := by decide +kernel
theorem d_Ari_runsImmediate_16 : decode b_Ari_runsImmediate 16 = .ok (.tableswitch 135 7 15 #[52, 62, 135, 135, 135, 78, 78, 92, 112], 52) := by decide +kernel
theorem d_Ari_runsImmediate_68 : decode b_Ari_runsImmediate 68 = .ok (.iload_n 2, 1) := by decide +kernel
theorem d_Ari_runsImmediate_69 : decode b_Ari_runsImmediate 69 = .ok (.aload_n 1, 1) := by decide +kernel
theorem d_Ari_runsImmediate_70 : decode b_Ari_runsImmediate 70 = .ok (.getfield 28, 3) := by decide +kernel
theorem d_Ari_runsImmediate_73 : decode b_Ari_runsImmediate 73 = .ok (.imul, 1) := by decide +kernel
theorem d_Ari_runsImmediate_74 : decode b_Ari_runsImmediate 74 = .ok (.istore_n 3, 1) := by decide +kernel
theorem d_Ari_runsImmediate_75 : decode b_Ari_runsImmediate 75 = .ok (.goto 78, 3) := by decide +kernel
theorem d_Ari_runsImmediate_78 : decode b_Ari_runsImmediate 78 = .ok (.aload_n 0, 1) := by decide +kernel
theorem d_Ari_runsImmediate_79 : decode b_Ari_runsImmediate 79 = .ok (.iload_n 2, 1) := by decide +kernel
theorem d_Ari_runsImmediate_80 : decode b_Ari_runsImmediate 80 = .ok (.iconst (-1), 1) := by decide +kernel
theorem d_Ari_runsImmediate_81 : decode b_Ari_runsImmediate 81 = .ok (.ixor, 1) := by decide +kernel
theorem d_Ari_runsImmediate_82 : decode b_Ari_runsImmediate 82 = .ok (.aload_n 1, 1) := by decide +kernel
theorem d_Ari_runsImmediate_83 : decode b_Ari_runsImmediate 83 = .ok (.getfield 28, 3) := by decide +kernel
theorem d_Ari_runsImmediate_86 : decode b_Ari_runsImmediate 86 = .ok (.iconst 1, 1) := by decide +kernel
theorem d_Ari_runsImmediate_87 : decode b_Ari_runsImmediate 87 = .ok (.invokevirtual 31, 3) := by decide +kernel
theorem d_Ari_runsImmediate_90 : decode b_Ari_runsImmediate 90 = .ok (.istore_n 3, 1) := by decide +kernel
theorem d_Ari_runsImmediate_91 : decode b_Ari_runsImmediate 91 = .ok (.goto 62, 3) := by decide +kernel
theorem d_Ari_runsImmediate_94 : decode b_Ari_runsImmediate 94 = .ok (.aload_n 0, 1) := by decide +kernel
theorem d_Ari_runsImmediate_95 : decode b_Ari_runsImmediate 95 = .ok (.iload_n 2, 1) := by decide +kernel
theorem d_Ari_runsImmediate_96 : decode b_Ari_runsImmediate 96 = .ok (.aload_n 1, 1) := by decide +kernel
theorem d_Ari_runsImmediate_97 : decode b_Ari_runsImmediate 97 = .ok (.getfield 28, 3) := by decide +kernel
theorem d_Ari_runsImmediate_100 : decode b_Ari_runsImmediate 100 = .ok (.iconst 0, 1) := by decide +kernel
theorem d_Ari_runsImmediate_101 : decode b_Ari_runsImmediate 101 = .ok (.invokevirtual 31, 3) := by decide +kernel
theorem d_Ari_runsImmediate_104 : decode b_Ari_runsImmediate 104 = .ok (.istore_n 3, 1) := by decide +kernel
theorem d_Ari_runsImmediate_105 : decode b_Ari_runsImmediate 105 = .ok (.goto 48, 3) := by decide +kernel
theorem d_Ari_runsImmediate_108 : decode b_Ari_runsImmediate 108 = .ok (.aload_n 0, 1) := by decide +kernel
theorem d_Ari_runsImmediate_109 : decode b_Ari_runsImmediate 109 = .ok (.getfield 7, 3) := by decide +kernel
theorem d_Ari_runsImmediate_112 : decode b_Ari_runsImmediate 112 = .ok (.aload_n 1, 1) := by decide +kernel
theorem d_Ari_runsImmediate_113 : decode b_Ari_runsImmediate 113 = .ok (.getfield 13, 3) := by decide +kernel
theorem d_Ari_runsImmediate_116 : decode b_Ari_runsImmediate 116 = .ok (.invokevirtual 35, 3) := by decide +kernel
theorem d_Ari_runsImmediate_119 : decode b_Ari_runsImmediate 119 = .ok (.aload_n 1, 1) := by decide +kernel
theorem d_Ari_runsImmediate_120 : decode b_Ari_runsImmediate 120 = .ok (.getfield 28, 3) := by decide +kernel
theorem d_Ari_runsImmediate_123 : decode b_Ari_runsImmediate 123 = .ok (.iadd, 1) := by decide +kernel
theorem d_Ari_runsImmediate_124 : decode b_Ari_runsImmediate 124 = .ok (.istore_n 3, 1) := by decide +kernel
theorem d_Ari_runsImmediate_125 : decode b_Ari_runsImmediate 125 = .ok (.goto 28, 3) := by decide +kernel
theorem d_Ari_runsImmediate_128 : decode b_Ari_runsImmediate 128 = .ok (.aload_n 0, 1) := by decide +kernel
theorem d_Ari_runsImmediate_129 : decode b_Ari_runsImmediate 129 = .ok (.getfield 7, 3) := by decide +kernel
theorem d_Ari_runsImmediate_132 : decode b_Ari_runsImmediate 132 = .ok (.aload_n 1, 1) := by decide +kernel
theorem d_Ari_runsImmediate_133 : decode b_Ari_runsImmediate 133 = .ok (.getfield 13, 3) := by decide +kernel
theorem d_Ari_runsImmediate_136 : decode b_Ari_runsImmediate 136 = .ok (.invokevirtual 35, 3) := by decide +kernel
theorem d_Ari_runsImmediate_139 : decode b_Ari_runsImmediate 139 = .ok (.aload_n 1, 1) := by decide +kernel
theorem d_Ari_runsImmediate_140 : decode b_Ari_runsImmediate 140 = .ok (.getfield 28, 3) := by decide +kernel
theorem d_Ari_runsImmediate_143 : decode b_Ari_runsImmediate 143 = .ok (.ldc 38, 2) := by decide +kernel
theorem d_Ari_runsImmediate_145 : decode b_Ari_runsImmediate 145 = .ok (.imul, 1) := by decide +kernel
theorem d_Ari_runsImmediate_146 : decode b_Ari_runsImmediate 146 = .ok (.iadd, 1) := by decide +kernel
theorem d_Ari_runsImmediate_147 : decode b_Ari_runsImmediate 147 = .ok (.istore_n 3, 1) := by decide +kernel
theorem d_Ari_runsImmediate_148 : decode b_Ari_runsImmediate 148 = .ok (.goto 5, 3) := by decide +kernel
theorem d_Ari_runsImmediate_151 : decode b_Ari_runsImmediate 151 = .ok (.iconst 0, 1) := by decide +kernel
theorem d_Ari_runsImmediate_152 : decode b_Ari_runsImmediate 152 = .ok (.ireturn, 1) := by decide +kernel
theorem d_Ari_runsImmediate_153 : decode b_Ari_runsImmediate 153 = .ok (.aload_n 0, 1) := by decide +kernel
theorem d_Ari_runsImmediate_154 : decode b_Ari_runsImmediate 154 = .ok (.getfield 7, 3) := by decide +kernel
theorem d_Ari_runsImmediate_157 : decode b_Ari_runsImmediate 157 = .ok (.aload_n 1, 1) := by decide +kernel
theorem d_Ari_runsImmediate_158 : decode b_Ari_runsImmediate 158 = .ok (.getfield 39, 3) := by decide +kernel
theorem d_Ari_runsImmediate_161 : decode b_Ari_runsImmediate 161 = .ok (.iload_n 3, 1) := by decide +kernel
theorem d_Ari_runsImmediate_162 : decode b_Ari_runsImmediate 162 = .ok (.aload_n 1, 1) := by decide +kernel
theorem d_Ari_runsImmediate_163 : decode b_Ari_runsImmediate 163 = .ok (.getfield 25, 3) := by decide +kernel
theorem d_Ari_runsImmediate_166 : decode b_Ari_runsImmediate 166 = .ok (.bipush 13, 2) := by decide +kernel
theorem d_Ari_runsImmediate_168 : decode b_Ari_runsImmediate 168 = .ok (.if_icmp .ne 7, 3) := by decide +kernel
theorem d_Ari_runsImmediate_171 : decode b_Ari_runsImmediate 171 = .ok (.iconst 1, 1) := by decide +kernel
theorem d_Ari_runsImmediate_172 : decode b_Ari_runsImmediate 172 = .ok (.goto 4, 3) := by decide +kernel
theorem d_Ari_runsImmediate_175 : decode b_Ari_runsImmediate 175 = .ok (.iconst 0, 1) := by decide +kernel
theorem d_Ari_runsImmediate_176 : decode b_Ari_runsImmediate 176 = .ok (.invokevirtual 42, 3) := by decide +kernel
theorem d_Ari_runsImmediate_179 : decode b_Ari_runsImmediate 179 = .ok (.iconst 1, 1) := by decide +kernel
theorem d_Ari_runsImmediate_180 : decode b_Ari_runsImmediate 180 = .ok (.ireturn, 1) := by decide +kernel
def f_Ari_runsImmediate (g : Nat → Int32) (sp : Nat → Int32) (io : Int32) (id : Int32) (ia : Int32) (is : Int32) : Int32 × (Nat → Int32) × (Nat → Int32) :=
  if io = (7 : Int32) then
    let t7 := (f_Sta_keepResult id ((f_Sta_register ia g) * is) (if io = (13 : Int32) then (1 : Int32) else (0 : Int32)) g sp)
    ((1 : Int32), t7.1, t7.2)
  else
    if io = (8 : Int32) then
      let t9 := (f_Ari_sumWithCarry ((f_Sta_register ia g) ^^^ (-1 : Int32)) is (1 : Int32) sp)
      let t15 := (f_Sta_keepResult id t9.1 (if io = (13 : Int32) then (1 : Int32) else (0 : Int32)) g t9.2)
      ((1 : Int32), t15.1, t15.2)
    else
      if io = (12 : Int32) ∨ io = (13 : Int32) then
        let t17 := (f_Ari_sumWithCarry (f_Sta_register ia g) is (0 : Int32) sp)
        let t23 := (f_Sta_keepResult id t17.1 (if io = (13 : Int32) then (1 : Int32) else (0 : Int32)) g t17.2)
        ((1 : Int32), t23.1, t23.2)
      else
        if io = (14 : Int32) then
          let t30 := (f_Sta_keepResult id ((f_Sta_registerOrZero ia g) + is) (if io = (13 : Int32) then (1 : Int32) else (0 : Int32)) g sp)
          ((1 : Int32), t30.1, t30.2)
        else
          if io = (15 : Int32) then
            let t37 := (f_Sta_keepResult id ((f_Sta_registerOrZero ia g) + (is * (65536 : Int32))) (if io = (13 : Int32) then (1 : Int32) else (0 : Int32)) g sp)
            ((1 : Int32), t37.1, t37.2)
          else
            ((0 : Int32), g, sp)
set_option maxHeartbeats 4000000 in
set_option maxRecDepth 100000 in
theorem ib_Ari_runsImmediate (g : Nat → Int32) (sp : Nat → Int32) (io : Int32) (id : Int32) (ia : Int32) (is : Int32) : isB (f_Ari_runsImmediate g sp io id ia is).1 := by
  unfold f_Ari_runsImmediate
  try dsimp only
  repeat' (first | refine ib_ite ?_ ?_ | refine ib_ite0 ?_ ?_ | with_reducible exact ib0 | with_reducible exact ib1 | (dsimp only; first | exact ib0 | exact ib1))
theorem nb_Ari_runsImmediate (g : Nat → Int32) (sp : Nat → Int32) (io : Int32) (id : Int32) (ia : Int32) (is : Int32) : narrow .boolean (.int (f_Ari_runsImmediate g sp io id ia is).1) = .int (f_Ari_runsImmediate g sp io id ia is).1 := nb_of (ib_Ari_runsImmediate g sp io id ia is)
set_option maxHeartbeats 4000000 in
set_option maxRecDepth 100000 in
theorem c_Ari_runsImmediate (l : Launch) (D : va_G) (aS aG aX aI aR : Nat) (cG cX : ClassId) (g : Nat → Int32) (sp : Nat → Int32) (nx : Int32) (lt : Int32) (sm : Int32) (ex : Int32) (iw : Int32) (io : Int32) (id : Int32) (ia : Int32) (ib : Int32) (ii : Int32) (is : Int32) (iu : Int32) (_q0 : Nat) : kMi l y_Ari_runsImmediate b_Ari_runsImmediate 4 (some .boolean) 2 51 D kCl [(cG, .int), (cX, .int)] [.ref aR, .ref aI] [(aS, .inr (9, [.ref aG, .ref aX, .int nx, .int lt, .int sm, .int ex])), (aG, .inl (cG, 32, .inl g)), (aX, .inl (cX, 64, .inl sp)), (aI, .inr (5, [.int iw, .int io, .int id, .int ia, .int ib, .int ii, .int is, .int iu])), (aR, .inr (1, [.ref aS]))] (f_Ari_runsImmediate g sp io id ia is).1 [(aS, .inr (9, [.ref aG, .ref aX, .int nx, .int lt, .int sm, .int ex])), (aG, .inl (cG, 32, .inl (f_Ari_runsImmediate g sp io id ia is).2.1)), (aX, .inl (cX, 64, .inl (f_Ari_runsImmediate g sp io id ia is).2.2)), (aI, .inr (5, [.int iw, .int io, .int id, .int ia, .int ib, .int ii, .int is, .int iu])), (aR, .inr (1, [.ref aS]))] := by
  refine k_entry (Qc := fun A => kQi D kCl [(cG, .int), (cX, .int)] (f_Ari_runsImmediate g sp io id ia is).1 [(aS, .inr (9, [.ref aG, .ref aX, .int nx, .int lt, .int sm, .int ex])), (aG, .inl (cG, 32, .inl (f_Ari_runsImmediate g sp io id ia is).2.1)), (aX, .inl (cX, 64, .inl (f_Ari_runsImmediate g sp io id ia is).2.2)), (aI, .inr (5, [.int iw, .int io, .int id, .int ia, .int ib, .int ii, .int is, .int iu])), (aR, .inr (1, [.ref aS]))] A) (lv := [(0, .ref aR), (1, .ref aI)]) (by decide) (Nat.le_of_ble_eq_true rfl) rfl ?_
  intro p e s m below meth c A ls hx hb hr hml hB hown hlocks hin hA hK hN hP hD hS hl
  have hown : s.vm.findClass "MappedProcessor$Arithmetic" = some m.cls := hown
  refine lv_aload_n hx hb d_Ari_runsImmediate_0 rfl (lv_at hl 0 rfl) ?_
  refine va_get (D := D) (ci := 1) (v := .ref aS) (C := "MappedProcessor$Arithmetic") (T := T_Ari) (N := 1) hx hb hB iw_Ari hown hK hP 4 rfl rfl 0 (by decide) (hB _ mw_159) (fun _ h9 => h9) rfl d_Ari_runsImmediate_1 ?_
  refine lv_aload_n hx hb d_Ari_runsImmediate_4 rfl (lv_at hl 1 rfl) ?_
  refine va_get (D := D) (ci := 5) (v := .int ia) (C := "MappedProcessor$Instruction") (T := T_Ins) (N := 8) hx hb hB iw_Ins hown hK hP 3 rfl rfl 3 (by decide) (hB _ mw_98) (fun _ h9 => h9) rfl d_Ari_runsImmediate_5 ?_
  refine k_cVi (As := [.int ia]) (rest := []) (wr := [(aI, .inr (5, [.int iw, .int io, .int id, .int ia, .int ib, .int ii, .int is, .int iu])), (aR, .inr (1, [.ref aS]))]) (wj := [(aS, .inr (9, [.ref aG, .ref aX, .int nx, .int lt, .int sm, .int ex])), (aG, .inl (cG, 32, .inl g)), (aX, .inl (cX, 64, .inl sp)), (aI, .inr (5, [.int iw, .int io, .int id, .int ia, .int ib, .int ii, .int is, .int iu])), (aR, .inr (1, [.ref aS]))]) ⟨hx, hb, hml, hown, hB⟩ (c_Sta_register l D aS aG aX cG cX g sp nx lt sm ex ia) yl_Sta_register mw_401 hK hN hP hD hS hA [0, 1] [0, 1, 2] [3, 4] [2, 3, 4, 0, 1] rfl rfl rfl rfl (by decide +kernel) 0 rfl rfl rfl rfl hl.1 rfl (Nat.le_of_ble_eq_true rfl) ⟨Nat.le_of_ble_eq_true rfl, Nat.le_of_ble_eq_true rfl⟩ d_Ari_runsImmediate_8 ⟨Nat.le_of_ble_eq_true rfl, Nat.le_of_ble_eq_true rfl⟩ (fun H locs hP hD hS => ?_)
  refine lv_istore_n (lv' := [(2, .int (f_Sta_register ia g)), (0, .ref aR), (1, .ref aI)]) hx hb d_Ari_runsImmediate_11 rfl hl (by decide) rfl (fun ls hl => ?_)
  refine lv_aload_n hx hb d_Ari_runsImmediate_12 rfl (lv_at hl 2 rfl) ?_
  refine va_get (D := D) (ci := 5) (v := .int io) (C := "MappedProcessor$Instruction") (T := T_Ins) (N := 8) hx hb hB iw_Ins hown hK hP 3 rfl rfl 1 (by decide) (hB _ mw_87) (fun _ h9 => h9) rfl d_Ari_runsImmediate_13 ?_
  by_cases h1 : io = (7 : Int32)
  · refine k_table (off := 52) (tgt := 68) hx hb d_Ari_runsImmediate_16 (by have hq9 := h1 <;> rw [hq9] <;> rfl) (by decide) ?_
    refine lv_iload_n hx hb d_Ari_runsImmediate_68 rfl (lv_at hl 0 rfl) ?_
    refine lv_aload_n hx hb d_Ari_runsImmediate_69 rfl (lv_at hl 2 rfl) ?_
    refine va_get (D := D) (ci := 5) (v := .int is) (C := "MappedProcessor$Instruction") (T := T_Ins) (N := 8) hx hb hB iw_Ins hown hK hP 3 rfl rfl 6 (by decide) (hB _ mw_122) (fun _ h9 => h9) rfl d_Ari_runsImmediate_70 ?_
    refine lv_imul hx hb d_Ari_runsImmediate_73 ?_
    refine lv_istore_n (lv' := [(3, .int ((f_Sta_register ia g) * is)), (2, .int (f_Sta_register ia g)), (0, .ref aR), (1, .ref aI)]) hx hb d_Ari_runsImmediate_74 rfl hl (by decide) rfl (fun ls hl => ?_)
    refine lv_goto (tgt := 153) hx hb d_Ari_runsImmediate_75 (by decide) ?_
    refine lv_aload_n hx hb d_Ari_runsImmediate_153 rfl (lv_at hl 2 rfl) ?_
    refine va_get (D := D) (ci := 1) (v := .ref aS) (C := "MappedProcessor$Arithmetic") (T := T_Ari) (N := 1) hx hb hB iw_Ari hown hK hP 4 rfl rfl 0 (by decide) (hB _ mw_159) (fun _ h9 => h9) rfl d_Ari_runsImmediate_154 ?_
    refine lv_aload_n hx hb d_Ari_runsImmediate_157 rfl (lv_at hl 3 rfl) ?_
    refine va_get (D := D) (ci := 5) (v := .int id) (C := "MappedProcessor$Instruction") (T := T_Ins) (N := 8) hx hb hB iw_Ins hown hK hP 3 rfl rfl 2 (by decide) (hB _ mw_96) (fun _ h9 => h9) rfl d_Ari_runsImmediate_158 ?_
    refine lv_iload_n hx hb d_Ari_runsImmediate_161 rfl (lv_at hl 0 rfl) ?_
    refine lv_aload_n hx hb d_Ari_runsImmediate_162 rfl (lv_at hl 3 rfl) ?_
    refine va_get (D := D) (ci := 5) (v := .int io) (C := "MappedProcessor$Instruction") (T := T_Ins) (N := 8) hx hb hB iw_Ins hown hK hP 3 rfl rfl 1 (by decide) (hB _ mw_87) (fun _ h9 => h9) rfl d_Ari_runsImmediate_163 ?_
    refine lv_bipush (v := (13 : Int32)) hx hb d_Ari_runsImmediate_166 (by decide) ?_
    refine k_join2 (c0 := io = (13 : Int32)) (x1 := (1 : Int32)) (x2 := (0 : Int32)) (rest := [.int ((f_Sta_register ia g) * is), .int id, .ref aS]) 176 ?_ (fun k3 k4 => ?_)
    rotate_left
    · refine lv_icmp_ne (tgt := 175) hx hb d_Ari_runsImmediate_168 (by decide) (fun (h2 : ¬ io = (13 : Int32)) => ?_) (fun (h2 : io = (13 : Int32)) => ?_)
      · refine lv_iconst (v := (0 : Int32)) hx hb d_Ari_runsImmediate_175 (by decide) ?_
        exact k4 h2
      · refine lv_iconst (v := (1 : Int32)) hx hb d_Ari_runsImmediate_171 (by decide) ?_
        refine lv_goto (tgt := 176) hx hb d_Ari_runsImmediate_172 (by decide) ?_
        exact k3 h2
    let t7 := (f_Sta_keepResult id ((f_Sta_register ia g) * is) (if io = (13 : Int32) then (1 : Int32) else (0 : Int32)) g sp)
    refine k_cVv (As := [.int id, .int ((f_Sta_register ia g) * is), .int (if io = (13 : Int32) then (1 : Int32) else (0 : Int32))]) (rest := []) (wr := [(aI, .inr (5, [.int iw, .int io, .int id, .int ia, .int ib, .int ii, .int is, .int iu])), (aR, .inr (1, [.ref aS]))]) (wj := [(aS, .inr (9, [.ref aG, .ref aX, .int nx, .int lt, .int sm, .int ex])), (aG, .inl (cG, 32, .inl t7.1)), (aX, .inl (cX, 64, .inl t7.2)), (aI, .inr (5, [.int iw, .int io, .int id, .int ia, .int ib, .int ii, .int is, .int iu])), (aR, .inr (1, [.ref aS]))]) ⟨hx, hb, hml, hown, hB⟩ (c_Sta_keepResult l D aS aG aX cG cX g sp nx lt sm ex id ((f_Sta_register ia g) * is) (if io = (13 : Int32) then (1 : Int32) else (0 : Int32))) yl_Sta_keepResult mw_419 hK hN hP hD hS hA [0, 1] [0, 1, 2] [3, 4] [2, 3, 4, 0, 1] rfl rfl rfl rfl (by decide +kernel) 0 rfl rfl rfl rfl hl.1 rfl (Nat.le_of_ble_eq_true rfl) ⟨Nat.le_of_ble_eq_true rfl, Nat.le_of_ble_eq_true rfl⟩ d_Ari_runsImmediate_176 ⟨Nat.le_of_ble_eq_true rfl, Nat.le_of_ble_eq_true rfl⟩ (fun H locs hP hD hS => ?_)
    refine lv_iconst (v := (1 : Int32)) hx hb d_Ari_runsImmediate_179 (by decide) ?_
    have ef : f_Ari_runsImmediate g sp io id ia is = ((1 : Int32), t7.1, t7.2) := by unfold f_Ari_runsImmediate; try dsimp only; rw [if_pos h1]
    exact k_zret hx hb hr hlocks hK hP hD hS [0, 1, 2, 3, 4] rfl (by rw [ef] <;> rfl) (by rw [ef] <;> rfl) nb1 d_Ari_runsImmediate_180
  · by_cases h8 : io = (8 : Int32)
    · refine k_table (off := 62) (tgt := 78) hx hb d_Ari_runsImmediate_16 (by have hq9 := h8 <;> rw [hq9] <;> rfl) (by decide) ?_
      refine lv_aload_n hx hb d_Ari_runsImmediate_78 rfl (lv_at hl 1 rfl) ?_
      refine lv_iload_n hx hb d_Ari_runsImmediate_79 rfl (lv_at hl 0 rfl) ?_
      refine lv_iconst (v := (-1 : Int32)) hx hb d_Ari_runsImmediate_80 (by decide) ?_
      refine lv_ixor hx hb d_Ari_runsImmediate_81 ?_
      refine lv_aload_n hx hb d_Ari_runsImmediate_82 rfl (lv_at hl 2 rfl) ?_
      refine va_get (D := D) (ci := 5) (v := .int is) (C := "MappedProcessor$Instruction") (T := T_Ins) (N := 8) hx hb hB iw_Ins hown hK hP 3 rfl rfl 6 (by decide) (hB _ mw_122) (fun _ h9 => h9) rfl d_Ari_runsImmediate_83 ?_
      refine lv_iconst (v := (1 : Int32)) hx hb d_Ari_runsImmediate_86 (by decide) ?_
      let t9 := (f_Ari_sumWithCarry ((f_Sta_register ia g) ^^^ (-1 : Int32)) is (1 : Int32) sp)
      refine k_cVi (As := [.int ((f_Sta_register ia g) ^^^ (-1 : Int32)), .int is, .int (1 : Int32)]) (rest := []) (wr := [(aI, .inr (5, [.int iw, .int io, .int id, .int ia, .int ib, .int ii, .int is, .int iu]))]) (wj := [(aS, .inr (9, [.ref aG, .ref aX, .int nx, .int lt, .int sm, .int ex])), (aG, .inl (cG, 32, .inl g)), (aX, .inl (cX, 64, .inl t9.2)), (aI, .inr (5, [.int iw, .int io, .int id, .int ia, .int ib, .int ii, .int is, .int iu])), (aR, .inr (1, [.ref aS]))]) ⟨hx, hb, hml, hown, hB⟩ (c_Ari_sumWithCarry l D aS aG aX aR cG cX g sp nx lt sm ex ((f_Sta_register ia g) ^^^ (-1 : Int32)) is (1 : Int32)) yl_Ari_sumWithCarry mw_402 hK hN hP hD hS hA [0, 1] [0, 1, 2, 4] [3] [1, 2, 3, 0, 4] rfl rfl rfl rfl (by decide +kernel) 3 rfl rfl rfl rfl hl.1 rfl (Nat.le_of_ble_eq_true rfl) ⟨Nat.le_of_ble_eq_true rfl, Nat.le_of_ble_eq_true rfl⟩ d_Ari_runsImmediate_87 ⟨Nat.le_of_ble_eq_true rfl, Nat.le_of_ble_eq_true rfl⟩ (fun H locs hP hD hS => ?_)
      refine lv_istore_n (lv' := [(3, .int t9.1), (2, .int (f_Sta_register ia g)), (0, .ref aR), (1, .ref aI)]) hx hb d_Ari_runsImmediate_90 rfl hl (by decide) rfl (fun ls hl => ?_)
      refine lv_goto (tgt := 153) hx hb d_Ari_runsImmediate_91 (by decide) ?_
      refine lv_aload_n hx hb d_Ari_runsImmediate_153 rfl (lv_at hl 2 rfl) ?_
      refine va_get (D := D) (ci := 1) (v := .ref aS) (C := "MappedProcessor$Arithmetic") (T := T_Ari) (N := 1) hx hb hB iw_Ari hown hK hP 4 rfl rfl 0 (by decide) (hB _ mw_159) (fun _ h9 => h9) rfl d_Ari_runsImmediate_154 ?_
      refine lv_aload_n hx hb d_Ari_runsImmediate_157 rfl (lv_at hl 3 rfl) ?_
      refine va_get (D := D) (ci := 5) (v := .int id) (C := "MappedProcessor$Instruction") (T := T_Ins) (N := 8) hx hb hB iw_Ins hown hK hP 3 rfl rfl 2 (by decide) (hB _ mw_96) (fun _ h9 => h9) rfl d_Ari_runsImmediate_158 ?_
      refine lv_iload_n hx hb d_Ari_runsImmediate_161 rfl (lv_at hl 0 rfl) ?_
      refine lv_aload_n hx hb d_Ari_runsImmediate_162 rfl (lv_at hl 3 rfl) ?_
      refine va_get (D := D) (ci := 5) (v := .int io) (C := "MappedProcessor$Instruction") (T := T_Ins) (N := 8) hx hb hB iw_Ins hown hK hP 3 rfl rfl 1 (by decide) (hB _ mw_87) (fun _ h9 => h9) rfl d_Ari_runsImmediate_163 ?_
      refine lv_bipush (v := (13 : Int32)) hx hb d_Ari_runsImmediate_166 (by decide) ?_
      refine k_join2 (c0 := io = (13 : Int32)) (x1 := (1 : Int32)) (x2 := (0 : Int32)) (rest := [.int t9.1, .int id, .ref aS]) 176 ?_ (fun k11 k12 => ?_)
      rotate_left
      · refine lv_icmp_ne (tgt := 175) hx hb d_Ari_runsImmediate_168 (by decide) (fun (h10 : ¬ io = (13 : Int32)) => ?_) (fun (h10 : io = (13 : Int32)) => ?_)
        · refine lv_iconst (v := (0 : Int32)) hx hb d_Ari_runsImmediate_175 (by decide) ?_
          exact k12 h10
        · refine lv_iconst (v := (1 : Int32)) hx hb d_Ari_runsImmediate_171 (by decide) ?_
          refine lv_goto (tgt := 176) hx hb d_Ari_runsImmediate_172 (by decide) ?_
          exact k11 h10
      let t15 := (f_Sta_keepResult id t9.1 (if io = (13 : Int32) then (1 : Int32) else (0 : Int32)) g t9.2)
      refine k_cVv (As := [.int id, .int t9.1, .int (if io = (13 : Int32) then (1 : Int32) else (0 : Int32))]) (rest := []) (wr := [(aI, .inr (5, [.int iw, .int io, .int id, .int ia, .int ib, .int ii, .int is, .int iu])), (aR, .inr (1, [.ref aS]))]) (wj := [(aS, .inr (9, [.ref aG, .ref aX, .int nx, .int lt, .int sm, .int ex])), (aG, .inl (cG, 32, .inl t15.1)), (aX, .inl (cX, 64, .inl t15.2)), (aI, .inr (5, [.int iw, .int io, .int id, .int ia, .int ib, .int ii, .int is, .int iu])), (aR, .inr (1, [.ref aS]))]) ⟨hx, hb, hml, hown, hB⟩ (c_Sta_keepResult l D aS aG aX cG cX g t9.2 nx lt sm ex id t9.1 (if io = (13 : Int32) then (1 : Int32) else (0 : Int32))) yl_Sta_keepResult mw_419 hK hN hP hD hS hA [0, 1] [0, 1, 2] [3, 4] [2, 3, 4, 0, 1] rfl rfl rfl rfl (by decide +kernel) 0 rfl rfl rfl rfl hl.1 rfl (Nat.le_of_ble_eq_true rfl) ⟨Nat.le_of_ble_eq_true rfl, Nat.le_of_ble_eq_true rfl⟩ d_Ari_runsImmediate_176 ⟨Nat.le_of_ble_eq_true rfl, Nat.le_of_ble_eq_true rfl⟩ (fun H locs hP hD hS => ?_)
      refine lv_iconst (v := (1 : Int32)) hx hb d_Ari_runsImmediate_179 (by decide) ?_
      have ef : f_Ari_runsImmediate g sp io id ia is = ((1 : Int32), t15.1, t15.2) := by unfold f_Ari_runsImmediate; try dsimp only; rw [if_neg h1, if_pos h8]
      exact k_zret hx hb hr hlocks hK hP hD hS [0, 1, 2, 3, 4] rfl (by rw [ef] <;> rfl) (by rw [ef] <;> rfl) nb1 d_Ari_runsImmediate_180
    · by_cases h16 : io = (12 : Int32) ∨ io = (13 : Int32)
      · refine k_table (off := 78) (tgt := 94) hx hb d_Ari_runsImmediate_16 (by rcases h16 with hq9 | hq9 <;> rw [hq9] <;> rfl) (by decide) ?_
        refine lv_aload_n hx hb d_Ari_runsImmediate_94 rfl (lv_at hl 1 rfl) ?_
        refine lv_iload_n hx hb d_Ari_runsImmediate_95 rfl (lv_at hl 0 rfl) ?_
        refine lv_aload_n hx hb d_Ari_runsImmediate_96 rfl (lv_at hl 2 rfl) ?_
        refine va_get (D := D) (ci := 5) (v := .int is) (C := "MappedProcessor$Instruction") (T := T_Ins) (N := 8) hx hb hB iw_Ins hown hK hP 3 rfl rfl 6 (by decide) (hB _ mw_122) (fun _ h9 => h9) rfl d_Ari_runsImmediate_97 ?_
        refine lv_iconst (v := (0 : Int32)) hx hb d_Ari_runsImmediate_100 (by decide) ?_
        let t17 := (f_Ari_sumWithCarry (f_Sta_register ia g) is (0 : Int32) sp)
        refine k_cVi (As := [.int (f_Sta_register ia g), .int is, .int (0 : Int32)]) (rest := []) (wr := [(aI, .inr (5, [.int iw, .int io, .int id, .int ia, .int ib, .int ii, .int is, .int iu]))]) (wj := [(aS, .inr (9, [.ref aG, .ref aX, .int nx, .int lt, .int sm, .int ex])), (aG, .inl (cG, 32, .inl g)), (aX, .inl (cX, 64, .inl t17.2)), (aI, .inr (5, [.int iw, .int io, .int id, .int ia, .int ib, .int ii, .int is, .int iu])), (aR, .inr (1, [.ref aS]))]) ⟨hx, hb, hml, hown, hB⟩ (c_Ari_sumWithCarry l D aS aG aX aR cG cX g sp nx lt sm ex (f_Sta_register ia g) is (0 : Int32)) yl_Ari_sumWithCarry mw_402 hK hN hP hD hS hA [0, 1] [0, 1, 2, 4] [3] [1, 2, 3, 0, 4] rfl rfl rfl rfl (by decide +kernel) 3 rfl rfl rfl rfl hl.1 rfl (Nat.le_of_ble_eq_true rfl) ⟨Nat.le_of_ble_eq_true rfl, Nat.le_of_ble_eq_true rfl⟩ d_Ari_runsImmediate_101 ⟨Nat.le_of_ble_eq_true rfl, Nat.le_of_ble_eq_true rfl⟩ (fun H locs hP hD hS => ?_)
        refine lv_istore_n (lv' := [(3, .int t17.1), (2, .int (f_Sta_register ia g)), (0, .ref aR), (1, .ref aI)]) hx hb d_Ari_runsImmediate_104 rfl hl (by decide) rfl (fun ls hl => ?_)
        refine lv_goto (tgt := 153) hx hb d_Ari_runsImmediate_105 (by decide) ?_
        refine lv_aload_n hx hb d_Ari_runsImmediate_153 rfl (lv_at hl 2 rfl) ?_
        refine va_get (D := D) (ci := 1) (v := .ref aS) (C := "MappedProcessor$Arithmetic") (T := T_Ari) (N := 1) hx hb hB iw_Ari hown hK hP 4 rfl rfl 0 (by decide) (hB _ mw_159) (fun _ h9 => h9) rfl d_Ari_runsImmediate_154 ?_
        refine lv_aload_n hx hb d_Ari_runsImmediate_157 rfl (lv_at hl 3 rfl) ?_
        refine va_get (D := D) (ci := 5) (v := .int id) (C := "MappedProcessor$Instruction") (T := T_Ins) (N := 8) hx hb hB iw_Ins hown hK hP 3 rfl rfl 2 (by decide) (hB _ mw_96) (fun _ h9 => h9) rfl d_Ari_runsImmediate_158 ?_
        refine lv_iload_n hx hb d_Ari_runsImmediate_161 rfl (lv_at hl 0 rfl) ?_
        refine lv_aload_n hx hb d_Ari_runsImmediate_162 rfl (lv_at hl 3 rfl) ?_
        refine va_get (D := D) (ci := 5) (v := .int io) (C := "MappedProcessor$Instruction") (T := T_Ins) (N := 8) hx hb hB iw_Ins hown hK hP 3 rfl rfl 1 (by decide) (hB _ mw_87) (fun _ h9 => h9) rfl d_Ari_runsImmediate_163 ?_
        refine lv_bipush (v := (13 : Int32)) hx hb d_Ari_runsImmediate_166 (by decide) ?_
        refine k_join2 (c0 := io = (13 : Int32)) (x1 := (1 : Int32)) (x2 := (0 : Int32)) (rest := [.int t17.1, .int id, .ref aS]) 176 ?_ (fun k19 k20 => ?_)
        rotate_left
        · refine lv_icmp_ne (tgt := 175) hx hb d_Ari_runsImmediate_168 (by decide) (fun (h18 : ¬ io = (13 : Int32)) => ?_) (fun (h18 : io = (13 : Int32)) => ?_)
          · refine lv_iconst (v := (0 : Int32)) hx hb d_Ari_runsImmediate_175 (by decide) ?_
            exact k20 h18
          · refine lv_iconst (v := (1 : Int32)) hx hb d_Ari_runsImmediate_171 (by decide) ?_
            refine lv_goto (tgt := 176) hx hb d_Ari_runsImmediate_172 (by decide) ?_
            exact k19 h18
        let t23 := (f_Sta_keepResult id t17.1 (if io = (13 : Int32) then (1 : Int32) else (0 : Int32)) g t17.2)
        refine k_cVv (As := [.int id, .int t17.1, .int (if io = (13 : Int32) then (1 : Int32) else (0 : Int32))]) (rest := []) (wr := [(aI, .inr (5, [.int iw, .int io, .int id, .int ia, .int ib, .int ii, .int is, .int iu])), (aR, .inr (1, [.ref aS]))]) (wj := [(aS, .inr (9, [.ref aG, .ref aX, .int nx, .int lt, .int sm, .int ex])), (aG, .inl (cG, 32, .inl t23.1)), (aX, .inl (cX, 64, .inl t23.2)), (aI, .inr (5, [.int iw, .int io, .int id, .int ia, .int ib, .int ii, .int is, .int iu])), (aR, .inr (1, [.ref aS]))]) ⟨hx, hb, hml, hown, hB⟩ (c_Sta_keepResult l D aS aG aX cG cX g t17.2 nx lt sm ex id t17.1 (if io = (13 : Int32) then (1 : Int32) else (0 : Int32))) yl_Sta_keepResult mw_419 hK hN hP hD hS hA [0, 1] [0, 1, 2] [3, 4] [2, 3, 4, 0, 1] rfl rfl rfl rfl (by decide +kernel) 0 rfl rfl rfl rfl hl.1 rfl (Nat.le_of_ble_eq_true rfl) ⟨Nat.le_of_ble_eq_true rfl, Nat.le_of_ble_eq_true rfl⟩ d_Ari_runsImmediate_176 ⟨Nat.le_of_ble_eq_true rfl, Nat.le_of_ble_eq_true rfl⟩ (fun H locs hP hD hS => ?_)
        refine lv_iconst (v := (1 : Int32)) hx hb d_Ari_runsImmediate_179 (by decide) ?_
        have ef : f_Ari_runsImmediate g sp io id ia is = ((1 : Int32), t23.1, t23.2) := by unfold f_Ari_runsImmediate; try dsimp only; rw [if_neg h1, if_neg h8, if_pos h16]
        exact k_zret hx hb hr hlocks hK hP hD hS [0, 1, 2, 3, 4] rfl (by rw [ef] <;> rfl) (by rw [ef] <;> rfl) nb1 d_Ari_runsImmediate_180
      · by_cases h24 : io = (14 : Int32)
        · refine k_table (off := 92) (tgt := 108) hx hb d_Ari_runsImmediate_16 (by have hq9 := h24 <;> rw [hq9] <;> rfl) (by decide) ?_
          refine lv_aload_n hx hb d_Ari_runsImmediate_108 rfl (lv_at hl 1 rfl) ?_
          refine va_get (D := D) (ci := 1) (v := .ref aS) (C := "MappedProcessor$Arithmetic") (T := T_Ari) (N := 1) hx hb hB iw_Ari hown hK hP 4 rfl rfl 0 (by decide) (hB _ mw_159) (fun _ h9 => h9) rfl d_Ari_runsImmediate_109 ?_
          refine lv_aload_n hx hb d_Ari_runsImmediate_112 rfl (lv_at hl 2 rfl) ?_
          refine va_get (D := D) (ci := 5) (v := .int ia) (C := "MappedProcessor$Instruction") (T := T_Ins) (N := 8) hx hb hB iw_Ins hown hK hP 3 rfl rfl 3 (by decide) (hB _ mw_98) (fun _ h9 => h9) rfl d_Ari_runsImmediate_113 ?_
          refine k_cVi (As := [.int ia]) (rest := []) (wr := [(aI, .inr (5, [.int iw, .int io, .int id, .int ia, .int ib, .int ii, .int is, .int iu])), (aR, .inr (1, [.ref aS]))]) (wj := [(aS, .inr (9, [.ref aG, .ref aX, .int nx, .int lt, .int sm, .int ex])), (aG, .inl (cG, 32, .inl g)), (aX, .inl (cX, 64, .inl sp)), (aI, .inr (5, [.int iw, .int io, .int id, .int ia, .int ib, .int ii, .int is, .int iu])), (aR, .inr (1, [.ref aS]))]) ⟨hx, hb, hml, hown, hB⟩ (c_Sta_registerOrZero l D aS aG aX cG cX g sp nx lt sm ex ia) yl_Sta_registerOrZero mw_413 hK hN hP hD hS hA [0, 1] [0, 1, 2] [3, 4] [2, 3, 4, 0, 1] rfl rfl rfl rfl (by decide +kernel) 0 rfl rfl rfl rfl hl.1 rfl (Nat.le_of_ble_eq_true rfl) ⟨Nat.le_of_ble_eq_true rfl, Nat.le_of_ble_eq_true rfl⟩ d_Ari_runsImmediate_116 ⟨Nat.le_of_ble_eq_true rfl, Nat.le_of_ble_eq_true rfl⟩ (fun H locs hP hD hS => ?_)
          refine lv_aload_n hx hb d_Ari_runsImmediate_119 rfl (lv_at hl 2 rfl) ?_
          refine va_get (D := D) (ci := 5) (v := .int is) (C := "MappedProcessor$Instruction") (T := T_Ins) (N := 8) hx hb hB iw_Ins hown hK hP 3 rfl rfl 6 (by decide) (hB _ mw_122) (fun _ h9 => h9) rfl d_Ari_runsImmediate_120 ?_
          refine lv_iadd hx hb d_Ari_runsImmediate_123 ?_
          refine lv_istore_n (lv' := [(3, .int ((f_Sta_registerOrZero ia g) + is)), (2, .int (f_Sta_register ia g)), (0, .ref aR), (1, .ref aI)]) hx hb d_Ari_runsImmediate_124 rfl hl (by decide) rfl (fun ls hl => ?_)
          refine lv_goto (tgt := 153) hx hb d_Ari_runsImmediate_125 (by decide) ?_
          refine lv_aload_n hx hb d_Ari_runsImmediate_153 rfl (lv_at hl 2 rfl) ?_
          refine va_get (D := D) (ci := 1) (v := .ref aS) (C := "MappedProcessor$Arithmetic") (T := T_Ari) (N := 1) hx hb hB iw_Ari hown hK hP 4 rfl rfl 0 (by decide) (hB _ mw_159) (fun _ h9 => h9) rfl d_Ari_runsImmediate_154 ?_
          refine lv_aload_n hx hb d_Ari_runsImmediate_157 rfl (lv_at hl 3 rfl) ?_
          refine va_get (D := D) (ci := 5) (v := .int id) (C := "MappedProcessor$Instruction") (T := T_Ins) (N := 8) hx hb hB iw_Ins hown hK hP 3 rfl rfl 2 (by decide) (hB _ mw_96) (fun _ h9 => h9) rfl d_Ari_runsImmediate_158 ?_
          refine lv_iload_n hx hb d_Ari_runsImmediate_161 rfl (lv_at hl 0 rfl) ?_
          refine lv_aload_n hx hb d_Ari_runsImmediate_162 rfl (lv_at hl 3 rfl) ?_
          refine va_get (D := D) (ci := 5) (v := .int io) (C := "MappedProcessor$Instruction") (T := T_Ins) (N := 8) hx hb hB iw_Ins hown hK hP 3 rfl rfl 1 (by decide) (hB _ mw_87) (fun _ h9 => h9) rfl d_Ari_runsImmediate_163 ?_
          refine lv_bipush (v := (13 : Int32)) hx hb d_Ari_runsImmediate_166 (by decide) ?_
          refine k_join2 (c0 := io = (13 : Int32)) (x1 := (1 : Int32)) (x2 := (0 : Int32)) (rest := [.int ((f_Sta_registerOrZero ia g) + is), .int id, .ref aS]) 176 ?_ (fun k26 k27 => ?_)
          rotate_left
          · refine lv_icmp_ne (tgt := 175) hx hb d_Ari_runsImmediate_168 (by decide) (fun (h25 : ¬ io = (13 : Int32)) => ?_) (fun (h25 : io = (13 : Int32)) => ?_)
            · refine lv_iconst (v := (0 : Int32)) hx hb d_Ari_runsImmediate_175 (by decide) ?_
              exact k27 h25
            · refine lv_iconst (v := (1 : Int32)) hx hb d_Ari_runsImmediate_171 (by decide) ?_
              refine lv_goto (tgt := 176) hx hb d_Ari_runsImmediate_172 (by decide) ?_
              exact k26 h25
          let t30 := (f_Sta_keepResult id ((f_Sta_registerOrZero ia g) + is) (if io = (13 : Int32) then (1 : Int32) else (0 : Int32)) g sp)
          refine k_cVv (As := [.int id, .int ((f_Sta_registerOrZero ia g) + is), .int (if io = (13 : Int32) then (1 : Int32) else (0 : Int32))]) (rest := []) (wr := [(aI, .inr (5, [.int iw, .int io, .int id, .int ia, .int ib, .int ii, .int is, .int iu])), (aR, .inr (1, [.ref aS]))]) (wj := [(aS, .inr (9, [.ref aG, .ref aX, .int nx, .int lt, .int sm, .int ex])), (aG, .inl (cG, 32, .inl t30.1)), (aX, .inl (cX, 64, .inl t30.2)), (aI, .inr (5, [.int iw, .int io, .int id, .int ia, .int ib, .int ii, .int is, .int iu])), (aR, .inr (1, [.ref aS]))]) ⟨hx, hb, hml, hown, hB⟩ (c_Sta_keepResult l D aS aG aX cG cX g sp nx lt sm ex id ((f_Sta_registerOrZero ia g) + is) (if io = (13 : Int32) then (1 : Int32) else (0 : Int32))) yl_Sta_keepResult mw_419 hK hN hP hD hS hA [0, 1] [0, 1, 2] [3, 4] [2, 3, 4, 0, 1] rfl rfl rfl rfl (by decide +kernel) 0 rfl rfl rfl rfl hl.1 rfl (Nat.le_of_ble_eq_true rfl) ⟨Nat.le_of_ble_eq_true rfl, Nat.le_of_ble_eq_true rfl⟩ d_Ari_runsImmediate_176 ⟨Nat.le_of_ble_eq_true rfl, Nat.le_of_ble_eq_true rfl⟩ (fun H locs hP hD hS => ?_)
          refine lv_iconst (v := (1 : Int32)) hx hb d_Ari_runsImmediate_179 (by decide) ?_
          have ef : f_Ari_runsImmediate g sp io id ia is = ((1 : Int32), t30.1, t30.2) := by unfold f_Ari_runsImmediate; try dsimp only; rw [if_neg h1, if_neg h8, if_neg h16, if_pos h24]
          exact k_zret hx hb hr hlocks hK hP hD hS [0, 1, 2, 3, 4] rfl (by rw [ef] <;> rfl) (by rw [ef] <;> rfl) nb1 d_Ari_runsImmediate_180
        · by_cases h31 : io = (15 : Int32)
          · refine k_table (off := 112) (tgt := 128) hx hb d_Ari_runsImmediate_16 (by have hq9 := h31 <;> rw [hq9] <;> rfl) (by decide) ?_
            refine lv_aload_n hx hb d_Ari_runsImmediate_128 rfl (lv_at hl 1 rfl) ?_
            refine va_get (D := D) (ci := 1) (v := .ref aS) (C := "MappedProcessor$Arithmetic") (T := T_Ari) (N := 1) hx hb hB iw_Ari hown hK hP 4 rfl rfl 0 (by decide) (hB _ mw_159) (fun _ h9 => h9) rfl d_Ari_runsImmediate_129 ?_
            refine lv_aload_n hx hb d_Ari_runsImmediate_132 rfl (lv_at hl 2 rfl) ?_
            refine va_get (D := D) (ci := 5) (v := .int ia) (C := "MappedProcessor$Instruction") (T := T_Ins) (N := 8) hx hb hB iw_Ins hown hK hP 3 rfl rfl 3 (by decide) (hB _ mw_98) (fun _ h9 => h9) rfl d_Ari_runsImmediate_133 ?_
            refine k_cVi (As := [.int ia]) (rest := []) (wr := [(aI, .inr (5, [.int iw, .int io, .int id, .int ia, .int ib, .int ii, .int is, .int iu])), (aR, .inr (1, [.ref aS]))]) (wj := [(aS, .inr (9, [.ref aG, .ref aX, .int nx, .int lt, .int sm, .int ex])), (aG, .inl (cG, 32, .inl g)), (aX, .inl (cX, 64, .inl sp)), (aI, .inr (5, [.int iw, .int io, .int id, .int ia, .int ib, .int ii, .int is, .int iu])), (aR, .inr (1, [.ref aS]))]) ⟨hx, hb, hml, hown, hB⟩ (c_Sta_registerOrZero l D aS aG aX cG cX g sp nx lt sm ex ia) yl_Sta_registerOrZero mw_413 hK hN hP hD hS hA [0, 1] [0, 1, 2] [3, 4] [2, 3, 4, 0, 1] rfl rfl rfl rfl (by decide +kernel) 0 rfl rfl rfl rfl hl.1 rfl (Nat.le_of_ble_eq_true rfl) ⟨Nat.le_of_ble_eq_true rfl, Nat.le_of_ble_eq_true rfl⟩ d_Ari_runsImmediate_136 ⟨Nat.le_of_ble_eq_true rfl, Nat.le_of_ble_eq_true rfl⟩ (fun H locs hP hD hS => ?_)
            refine lv_aload_n hx hb d_Ari_runsImmediate_139 rfl (lv_at hl 2 rfl) ?_
            refine va_get (D := D) (ci := 5) (v := .int is) (C := "MappedProcessor$Instruction") (T := T_Ins) (N := 8) hx hb hB iw_Ins hown hK hP 3 rfl rfl 6 (by decide) (hB _ mw_122) (fun _ h9 => h9) rfl d_Ari_runsImmediate_140 ?_
            refine lv_ldc (v := (65536 : Int32)) hx hb hown (hB _ mw_418) d_Ari_runsImmediate_143 ?_
            refine lv_imul hx hb d_Ari_runsImmediate_145 ?_
            refine lv_iadd hx hb d_Ari_runsImmediate_146 ?_
            refine lv_istore_n (lv' := [(3, .int ((f_Sta_registerOrZero ia g) + (is * (65536 : Int32)))), (2, .int (f_Sta_register ia g)), (0, .ref aR), (1, .ref aI)]) hx hb d_Ari_runsImmediate_147 rfl hl (by decide) rfl (fun ls hl => ?_)
            refine lv_goto (tgt := 153) hx hb d_Ari_runsImmediate_148 (by decide) ?_
            refine lv_aload_n hx hb d_Ari_runsImmediate_153 rfl (lv_at hl 2 rfl) ?_
            refine va_get (D := D) (ci := 1) (v := .ref aS) (C := "MappedProcessor$Arithmetic") (T := T_Ari) (N := 1) hx hb hB iw_Ari hown hK hP 4 rfl rfl 0 (by decide) (hB _ mw_159) (fun _ h9 => h9) rfl d_Ari_runsImmediate_154 ?_
            refine lv_aload_n hx hb d_Ari_runsImmediate_157 rfl (lv_at hl 3 rfl) ?_
            refine va_get (D := D) (ci := 5) (v := .int id) (C := "MappedProcessor$Instruction") (T := T_Ins) (N := 8) hx hb hB iw_Ins hown hK hP 3 rfl rfl 2 (by decide) (hB _ mw_96) (fun _ h9 => h9) rfl d_Ari_runsImmediate_158 ?_
            refine lv_iload_n hx hb d_Ari_runsImmediate_161 rfl (lv_at hl 0 rfl) ?_
            refine lv_aload_n hx hb d_Ari_runsImmediate_162 rfl (lv_at hl 3 rfl) ?_
            refine va_get (D := D) (ci := 5) (v := .int io) (C := "MappedProcessor$Instruction") (T := T_Ins) (N := 8) hx hb hB iw_Ins hown hK hP 3 rfl rfl 1 (by decide) (hB _ mw_87) (fun _ h9 => h9) rfl d_Ari_runsImmediate_163 ?_
            refine lv_bipush (v := (13 : Int32)) hx hb d_Ari_runsImmediate_166 (by decide) ?_
            refine k_join2 (c0 := io = (13 : Int32)) (x1 := (1 : Int32)) (x2 := (0 : Int32)) (rest := [.int ((f_Sta_registerOrZero ia g) + (is * (65536 : Int32))), .int id, .ref aS]) 176 ?_ (fun k33 k34 => ?_)
            rotate_left
            · refine lv_icmp_ne (tgt := 175) hx hb d_Ari_runsImmediate_168 (by decide) (fun (h32 : ¬ io = (13 : Int32)) => ?_) (fun (h32 : io = (13 : Int32)) => ?_)
              · refine lv_iconst (v := (0 : Int32)) hx hb d_Ari_runsImmediate_175 (by decide) ?_
                exact k34 h32
              · refine lv_iconst (v := (1 : Int32)) hx hb d_Ari_runsImmediate_171 (by decide) ?_
                refine lv_goto (tgt := 176) hx hb d_Ari_runsImmediate_172 (by decide) ?_
                exact k33 h32
            let t37 := (f_Sta_keepResult id ((f_Sta_registerOrZero ia g) + (is * (65536 : Int32))) (if io = (13 : Int32) then (1 : Int32) else (0 : Int32)) g sp)
            refine k_cVv (As := [.int id, .int ((f_Sta_registerOrZero ia g) + (is * (65536 : Int32))), .int (if io = (13 : Int32) then (1 : Int32) else (0 : Int32))]) (rest := []) (wr := [(aI, .inr (5, [.int iw, .int io, .int id, .int ia, .int ib, .int ii, .int is, .int iu])), (aR, .inr (1, [.ref aS]))]) (wj := [(aS, .inr (9, [.ref aG, .ref aX, .int nx, .int lt, .int sm, .int ex])), (aG, .inl (cG, 32, .inl t37.1)), (aX, .inl (cX, 64, .inl t37.2)), (aI, .inr (5, [.int iw, .int io, .int id, .int ia, .int ib, .int ii, .int is, .int iu])), (aR, .inr (1, [.ref aS]))]) ⟨hx, hb, hml, hown, hB⟩ (c_Sta_keepResult l D aS aG aX cG cX g sp nx lt sm ex id ((f_Sta_registerOrZero ia g) + (is * (65536 : Int32))) (if io = (13 : Int32) then (1 : Int32) else (0 : Int32))) yl_Sta_keepResult mw_419 hK hN hP hD hS hA [0, 1] [0, 1, 2] [3, 4] [2, 3, 4, 0, 1] rfl rfl rfl rfl (by decide +kernel) 0 rfl rfl rfl rfl hl.1 rfl (Nat.le_of_ble_eq_true rfl) ⟨Nat.le_of_ble_eq_true rfl, Nat.le_of_ble_eq_true rfl⟩ d_Ari_runsImmediate_176 ⟨Nat.le_of_ble_eq_true rfl, Nat.le_of_ble_eq_true rfl⟩ (fun H locs hP hD hS => ?_)
            refine lv_iconst (v := (1 : Int32)) hx hb d_Ari_runsImmediate_179 (by decide) ?_
            have ef : f_Ari_runsImmediate g sp io id ia is = ((1 : Int32), t37.1, t37.2) := by unfold f_Ari_runsImmediate; try dsimp only; rw [if_neg h1, if_neg h8, if_neg h16, if_neg h24, if_pos h31]
            exact k_zret hx hb hr hlocks hK hP hD hS [0, 1, 2, 3, 4] rfl (by rw [ef] <;> rfl) (by rw [ef] <;> rfl) nb1 d_Ari_runsImmediate_180
          · refine k_table (off := 135) (tgt := 151) hx hb d_Ari_runsImmediate_16 (by
                have ee0 := lv_neT (a := 7) h1 (by decide); have ee1 := lv_neT (a := 8) h8 (by decide); have ee2 := lv_neT (a := 12) (fun hq9 => h16 (Or.inl hq9)) (by decide); have ee3 := lv_neT (a := 13) (fun hq9 => h16 (Or.inr (hq9))) (by decide); have ee4 := lv_neT (a := 14) h24 (by decide); have ee5 := lv_neT (a := 15) h31 (by decide)
                by_cases hq9 : io.toInt < 7 ∨ 15 < io.toInt
                · rw [if_pos hq9]
                · rw [if_neg hq9]
                  have eg : io.toInt = 9 ∨ io.toInt = 10 ∨ io.toInt = 11 := by omega
                  rcases eg with eg | eg | eg <;> rw [eg] <;> rfl) (by decide) ?_
            refine lv_iconst (v := (0 : Int32)) hx hb d_Ari_runsImmediate_151 (by decide) ?_
            have ef : f_Ari_runsImmediate g sp io id ia is = ((0 : Int32), g, sp) := by unfold f_Ari_runsImmediate; try dsimp only; rw [if_neg h1, if_neg h8, if_neg h16, if_neg h24, if_neg h31]
            exact k_zret hx hb hr hlocks hK hP hD hS [0, 1, 2, 3, 4] rfl (by rw [ef] <;> rfl) (by rw [ef] <;> rfl) nb0 d_Ari_runsImmediate_152
/-! MappedProcessor$Logic.mask(II)I -/
theorem d_Log_mask_0 : decode b_Log_mask 0 = .ok (.iconst (-1), 1) := by decide +kernel
theorem d_Log_mask_1 : decode b_Log_mask 1 = .ok (.iload_n 0, 1) := by decide +kernel
theorem d_Log_mask_2 : decode b_Log_mask 2 = .ok (.iushr, 1) := by decide +kernel
theorem d_Log_mask_3 : decode b_Log_mask 3 = .ok (.istore_n 2, 1) := by decide +kernel
theorem d_Log_mask_4 : decode b_Log_mask 4 = .ok (.iconst (-1), 1) := by decide +kernel
theorem d_Log_mask_5 : decode b_Log_mask 5 = .ok (.bipush 31, 2) := by decide +kernel
theorem d_Log_mask_7 : decode b_Log_mask 7 = .ok (.iload_n 1, 1) := by decide +kernel
theorem d_Log_mask_8 : decode b_Log_mask 8 = .ok (.isub, 1) := by decide +kernel
theorem d_Log_mask_9 : decode b_Log_mask 9 = .ok (.ishl, 1) := by decide +kernel
theorem d_Log_mask_10 : decode b_Log_mask 10 = .ok (.istore_n 3, 1) := by decide +kernel
theorem d_Log_mask_11 : decode b_Log_mask 11 = .ok (.iload_n 0, 1) := by decide +kernel
theorem d_Log_mask_12 : decode b_Log_mask 12 = .ok (.iload_n 1, 1) := by decide +kernel
theorem d_Log_mask_13 : decode b_Log_mask 13 = .ok (.if_icmp .gt 9, 3) := by decide +kernel
theorem d_Log_mask_16 : decode b_Log_mask 16 = .ok (.iload_n 2, 1) := by decide +kernel
theorem d_Log_mask_17 : decode b_Log_mask 17 = .ok (.iload_n 3, 1) := by decide +kernel
theorem d_Log_mask_18 : decode b_Log_mask 18 = .ok (.iand, 1) := by decide +kernel
theorem d_Log_mask_19 : decode b_Log_mask 19 = .ok (.goto 6, 3) := by decide +kernel
theorem d_Log_mask_22 : decode b_Log_mask 22 = .ok (.iload_n 2, 1) := by decide +kernel
theorem d_Log_mask_23 : decode b_Log_mask 23 = .ok (.iload_n 3, 1) := by decide +kernel
theorem d_Log_mask_24 : decode b_Log_mask 24 = .ok (.ior, 1) := by decide +kernel
theorem d_Log_mask_25 : decode b_Log_mask 25 = .ok (.ireturn, 1) := by decide +kernel
def f_Log_mask (p0 : Int32) (p1 : Int32) : Int32 :=
  (if p1 < p0 then ((ush (-1 : Int32) p0) ||| (shl (-1 : Int32) ((31 : Int32) - p1))) else ((ush (-1 : Int32) p0) &&& (shl (-1 : Int32) ((31 : Int32) - p1))))
set_option maxHeartbeats 4000000 in
set_option maxRecDepth 100000 in
theorem c_Log_mask (l : Launch) (D : va_G) (p0 : Int32) (p1 : Int32) : kMi l y_Log_mask b_Log_mask 4 (some .int) 0 0 D kCl [] [.int p0, .int p1] [] (f_Log_mask p0 p1) [] := by
  refine k_entry (Qc := fun A => kQi D kCl [] (f_Log_mask p0 p1) [] A) (lv := [(0, .int p0), (1, .int p1)]) (by decide) (Nat.le_of_ble_eq_true rfl) rfl ?_
  intro p e s m below meth c A ls hx hb hr hml hB hown hlocks hin hA hK hN hP hD hS hl
  have hown : s.vm.findClass "MappedProcessor$Logic" = some m.cls := hown
  refine lv_iconst (v := (-1 : Int32)) hx hb d_Log_mask_0 (by decide) ?_
  refine lv_iload_n hx hb d_Log_mask_1 rfl (lv_at hl 0 rfl) ?_
  refine lv_iushr (v := (ush (-1 : Int32) p0)) hx hb d_Log_mask_2 rfl ?_
  refine lv_istore_n (lv' := [(2, .int (ush (-1 : Int32) p0)), (0, .int p0), (1, .int p1)]) hx hb d_Log_mask_3 rfl hl (by decide) rfl (fun ls hl => ?_)
  refine lv_iconst (v := (-1 : Int32)) hx hb d_Log_mask_4 (by decide) ?_
  refine lv_bipush (v := (31 : Int32)) hx hb d_Log_mask_5 (by decide) ?_
  refine lv_iload_n hx hb d_Log_mask_7 rfl (lv_at hl 2 rfl) ?_
  refine lv_isub hx hb d_Log_mask_8 ?_
  refine lv_ishl hx hb d_Log_mask_9 ?_
  refine lv_istore_n (lv' := [(3, .int (shl (-1 : Int32) ((31 : Int32) - p1))), (2, .int (ush (-1 : Int32) p0)), (0, .int p0), (1, .int p1)]) hx hb d_Log_mask_10 rfl hl (by decide) rfl (fun ls hl => ?_)
  refine lv_iload_n hx hb d_Log_mask_11 rfl (lv_at hl 2 rfl) ?_
  refine lv_iload_n hx hb d_Log_mask_12 rfl (lv_at hl 3 rfl) ?_
  refine k_join2 (c0 := p1 < p0) (x1 := ((ush (-1 : Int32) p0) ||| (shl (-1 : Int32) ((31 : Int32) - p1)))) (x2 := ((ush (-1 : Int32) p0) &&& (shl (-1 : Int32) ((31 : Int32) - p1)))) (rest := []) 25 ?_ (fun k2 k3 => ?_)
  rotate_left
  · refine lv_icmp_gt (tgt := 22) hx hb d_Log_mask_13 (by decide) (fun (h1 : p1 < p0) => ?_) (fun (h1 : ¬ p1 < p0) => ?_)
    · refine lv_iload_n hx hb d_Log_mask_22 rfl (lv_at hl 1 rfl) ?_
      refine lv_iload_n hx hb d_Log_mask_23 rfl (lv_at hl 0 rfl) ?_
      refine lv_ior hx hb d_Log_mask_24 ?_
      exact k2 h1
    · refine lv_iload_n hx hb d_Log_mask_16 rfl (lv_at hl 1 rfl) ?_
      refine lv_iload_n hx hb d_Log_mask_17 rfl (lv_at hl 0 rfl) ?_
      refine lv_iand hx hb d_Log_mask_18 ?_
      refine lv_goto (tgt := 25) hx hb d_Log_mask_19 (by decide) ?_
      exact k3 h1
  have ef : f_Log_mask p0 p1 = (if p1 < p0 then ((ush (-1 : Int32) p0) ||| (shl (-1 : Int32) ((31 : Int32) - p1))) else ((ush (-1 : Int32) p0) &&& (shl (-1 : Int32) ((31 : Int32) - p1)))) := rfl
  exact k_iret hx hb hr hlocks hK hP hD hS [] rfl rfl (by rw [ef] <;> rfl) d_Log_mask_25
/-! MappedProcessor$Logic.runsRotation(LMappedProcessor$Instruction;)Z -/
theorem d_Log_runsRotation_0 : decode b_Log_runsRotation 0 = .ok (.aload_n 1, 1) := by decide +kernel
theorem d_Log_runsRotation_1 : decode b_Log_runsRotation 1 = .ok (.getfield 25, 3) := by decide +kernel
theorem d_Log_runsRotation_4 : decode b_Log_runsRotation 4 = .ok (.bipush 23, 2) := by decide +kernel
theorem d_Log_runsRotation_6 : decode b_Log_runsRotation 6 = .ok (.if_icmp .ne 20, 3) := by decide +kernel
theorem d_Log_runsRotation_9 : decode b_Log_runsRotation 9 = .ok (.aload_n 0, 1) := by decide +kernel
theorem d_Log_runsRotation_10 : decode b_Log_runsRotation 10 = .ok (.getfield 7, 3) := by decide +kernel
theorem d_Log_runsRotation_13 : decode b_Log_runsRotation 13 = .ok (.aload_n 1, 1) := by decide +kernel
theorem d_Log_runsRotation_14 : decode b_Log_runsRotation 14 = .ok (.getfield 38, 3) := by decide +kernel
theorem d_Log_runsRotation_17 : decode b_Log_runsRotation 17 = .ok (.invokevirtual 19, 3) := by decide +kernel
theorem d_Log_runsRotation_20 : decode b_Log_runsRotation 20 = .ok (.bipush 31, 2) := by decide +kernel
theorem d_Log_runsRotation_22 : decode b_Log_runsRotation 22 = .ok (.iand, 1) := by decide +kernel
theorem d_Log_runsRotation_23 : decode b_Log_runsRotation 23 = .ok (.goto 7, 3) := by decide +kernel
theorem d_Log_runsRotation_26 : decode b_Log_runsRotation 26 = .ok (.aload_n 1, 1) := by decide +kernel
theorem d_Log_runsRotation_27 : decode b_Log_runsRotation 27 = .ok (.getfield 38, 3) := by decide +kernel
theorem d_Log_runsRotation_30 : decode b_Log_runsRotation 30 = .ok (.istore_n 2, 1) := by decide +kernel
theorem d_Log_runsRotation_31 : decode b_Log_runsRotation 31 = .ok (.aload_n 0, 1) := by decide +kernel
theorem d_Log_runsRotation_32 : decode b_Log_runsRotation 32 = .ok (.getfield 7, 3) := by decide +kernel
theorem d_Log_runsRotation_35 : decode b_Log_runsRotation 35 = .ok (.aload_n 1, 1) := by decide +kernel
theorem d_Log_runsRotation_36 : decode b_Log_runsRotation 36 = .ok (.getfield 13, 3) := by decide +kernel
theorem d_Log_runsRotation_39 : decode b_Log_runsRotation 39 = .ok (.invokevirtual 19, 3) := by decide +kernel
theorem d_Log_runsRotation_42 : decode b_Log_runsRotation 42 = .ok (.iload_n 2, 1) := by decide +kernel
theorem d_Log_runsRotation_43 : decode b_Log_runsRotation 43 = .ok (.invokestatic 41, 3) := by decide +kernel
theorem d_Log_runsRotation_46 : decode b_Log_runsRotation 46 = .ok (.istore_n 3, 1) := by decide +kernel
theorem d_Log_runsRotation_47 : decode b_Log_runsRotation 47 = .ok (.aload_n 1, 1) := by decide +kernel
theorem d_Log_runsRotation_48 : decode b_Log_runsRotation 48 = .ok (.getfield 47, 3) := by decide +kernel
theorem d_Log_runsRotation_51 : decode b_Log_runsRotation 51 = .ok (.bipush 6, 2) := by decide +kernel
theorem d_Log_runsRotation_53 : decode b_Log_runsRotation 53 = .ok (.ishr, 1) := by decide +kernel
theorem d_Log_runsRotation_54 : decode b_Log_runsRotation 54 = .ok (.bipush 31, 2) := by decide +kernel
theorem d_Log_runsRotation_56 : decode b_Log_runsRotation 56 = .ok (.iand, 1) := by decide +kernel
theorem d_Log_runsRotation_57 : decode b_Log_runsRotation 57 = .ok (.aload_n 1, 1) := by decide +kernel
theorem d_Log_runsRotation_58 : decode b_Log_runsRotation 58 = .ok (.getfield 47, 3) := by decide +kernel
theorem d_Log_runsRotation_61 : decode b_Log_runsRotation 61 = .ok (.iconst 1, 1) := by decide +kernel
theorem d_Log_runsRotation_62 : decode b_Log_runsRotation 62 = .ok (.ishr, 1) := by decide +kernel
theorem d_Log_runsRotation_63 : decode b_Log_runsRotation 63 = .ok (.bipush 31, 2) := by decide +kernel
theorem d_Log_runsRotation_65 : decode b_Log_runsRotation 65 = .ok (.iand, 1) := by decide +kernel
theorem d_Log_runsRotation_66 : decode b_Log_runsRotation 66 = .ok (.invokestatic 50, 3) := by decide +kernel
theorem d_Log_runsRotation_69 : decode b_Log_runsRotation 69 = .ok (.istore 4, 2) := by decide +kernel
theorem d_Log_runsRotation_71 : decode b_Log_runsRotation 71 = .ok (.aload_n 1, 1) := by decide +kernel
theorem d_Log_runsRotation_72 : decode b_Log_runsRotation 72 = .ok (.getfield 25, 3) := by decide +kernel
theorem d_Log_runsRotation_75 : decode b_Log_runsRotation 75 = .ok (.bipush 20, 2) := by decide +kernel
theorem d_Log_runsRotation_77 : decode b_Log_runsRotation 77 = .ok (.if_icmp .ne 22, 3) := by decide +kernel
theorem d_Log_runsRotation_80 : decode b_Log_runsRotation 80 = .ok (.aload_n 0, 1) := by decide +kernel
theorem d_Log_runsRotation_81 : decode b_Log_runsRotation 81 = .ok (.getfield 7, 3) := by decide +kernel
theorem d_Log_runsRotation_84 : decode b_Log_runsRotation 84 = .ok (.aload_n 1, 1) := by decide +kernel
theorem d_Log_runsRotation_85 : decode b_Log_runsRotation 85 = .ok (.getfield 31, 3) := by decide +kernel
theorem d_Log_runsRotation_88 : decode b_Log_runsRotation 88 = .ok (.invokevirtual 19, 3) := by decide +kernel
theorem d_Log_runsRotation_91 : decode b_Log_runsRotation 91 = .ok (.iload 4, 2) := by decide +kernel
theorem d_Log_runsRotation_93 : decode b_Log_runsRotation 93 = .ok (.iconst (-1), 1) := by decide +kernel
theorem d_Log_runsRotation_94 : decode b_Log_runsRotation 94 = .ok (.ixor, 1) := by decide +kernel
theorem d_Log_runsRotation_95 : decode b_Log_runsRotation 95 = .ok (.iand, 1) := by decide +kernel
theorem d_Log_runsRotation_96 : decode b_Log_runsRotation 96 = .ok (.goto 4, 3) := by decide +kernel
theorem d_Log_runsRotation_99 : decode b_Log_runsRotation 99 = .ok (.iconst 0, 1) := by decide +kernel
theorem d_Log_runsRotation_100 : decode b_Log_runsRotation 100 = .ok (.istore 5, 2) := by decide +kernel
theorem d_Log_runsRotation_102 : decode b_Log_runsRotation 102 = .ok (.aload_n 0, 1) := by decide +kernel
theorem d_Log_runsRotation_103 : decode b_Log_runsRotation 103 = .ok (.getfield 7, 3) := by decide +kernel
theorem d_Log_runsRotation_106 : decode b_Log_runsRotation 106 = .ok (.aload_n 1, 1) := by decide +kernel
theorem d_Log_runsRotation_107 : decode b_Log_runsRotation 107 = .ok (.getfield 31, 3) := by decide +kernel
theorem d_Log_runsRotation_110 : decode b_Log_runsRotation 110 = .ok (.iload 5, 2) := by decide +kernel
theorem d_Log_runsRotation_112 : decode b_Log_runsRotation 112 = .ok (.iload_n 3, 1) := by decide +kernel
theorem d_Log_runsRotation_113 : decode b_Log_runsRotation 113 = .ok (.iload 4, 2) := by decide +kernel
theorem d_Log_runsRotation_115 : decode b_Log_runsRotation 115 = .ok (.iand, 1) := by decide +kernel
theorem d_Log_runsRotation_116 : decode b_Log_runsRotation 116 = .ok (.ior, 1) := by decide +kernel
theorem d_Log_runsRotation_117 : decode b_Log_runsRotation 117 = .ok (.aload_n 1, 1) := by decide +kernel
theorem d_Log_runsRotation_118 : decode b_Log_runsRotation 118 = .ok (.iconst 1, 1) := by decide +kernel
theorem d_Log_runsRotation_119 : decode b_Log_runsRotation 119 = .ok (.invokevirtual 53, 3) := by decide +kernel
theorem d_Log_runsRotation_122 : decode b_Log_runsRotation 122 = .ok (.invokevirtual 34, 3) := by decide +kernel
theorem d_Log_runsRotation_125 : decode b_Log_runsRotation 125 = .ok (.iconst 1, 1) := by decide +kernel
theorem d_Log_runsRotation_126 : decode b_Log_runsRotation 126 = .ok (.ireturn, 1) := by decide +kernel
def f_Log_runsRotation (g : Nat → Int32) (sp : Nat → Int32) (iw : Int32) (io : Int32) (id : Int32) (ia : Int32) (ib : Int32) : Int32 × (Nat → Int32) × (Nat → Int32) :=
  if io = (23 : Int32) then
    if io = (20 : Int32) then
      let t16 := (f_Sta_keepResult ia (((f_Sta_register ia g) &&& ((f_Log_mask ((shr iw (6 : Int32)) &&& (31 : Int32)) ((shr iw (1 : Int32)) &&& (31 : Int32))) ^^^ (-1 : Int32))) ||| ((f_Int_rotateLeft (f_Sta_register id g) ((f_Sta_register ib g) &&& (31 : Int32))) &&& (f_Log_mask ((shr iw (6 : Int32)) &&& (31 : Int32)) ((shr iw (1 : Int32)) &&& (31 : Int32))))) (f_Ins_has (1 : Int32) iw) g sp)
      ((1 : Int32), t16.1, t16.2)
    else
      let t15 := (f_Sta_keepResult ia ((0 : Int32) ||| ((f_Int_rotateLeft (f_Sta_register id g) ((f_Sta_register ib g) &&& (31 : Int32))) &&& (f_Log_mask ((shr iw (6 : Int32)) &&& (31 : Int32)) ((shr iw (1 : Int32)) &&& (31 : Int32))))) (f_Ins_has (1 : Int32) iw) g sp)
      ((1 : Int32), t15.1, t15.2)
  else
    if io = (20 : Int32) then
      let t10 := (f_Sta_keepResult ia (((f_Sta_register ia g) &&& ((f_Log_mask ((shr iw (6 : Int32)) &&& (31 : Int32)) ((shr iw (1 : Int32)) &&& (31 : Int32))) ^^^ (-1 : Int32))) ||| ((f_Int_rotateLeft (f_Sta_register id g) ib) &&& (f_Log_mask ((shr iw (6 : Int32)) &&& (31 : Int32)) ((shr iw (1 : Int32)) &&& (31 : Int32))))) (f_Ins_has (1 : Int32) iw) g sp)
      ((1 : Int32), t10.1, t10.2)
    else
      let t9 := (f_Sta_keepResult ia ((0 : Int32) ||| ((f_Int_rotateLeft (f_Sta_register id g) ib) &&& (f_Log_mask ((shr iw (6 : Int32)) &&& (31 : Int32)) ((shr iw (1 : Int32)) &&& (31 : Int32))))) (f_Ins_has (1 : Int32) iw) g sp)
      ((1 : Int32), t9.1, t9.2)
set_option maxHeartbeats 4000000 in
set_option maxRecDepth 100000 in
theorem ib_Log_runsRotation (g : Nat → Int32) (sp : Nat → Int32) (iw : Int32) (io : Int32) (id : Int32) (ia : Int32) (ib : Int32) : isB (f_Log_runsRotation g sp iw io id ia ib).1 := by
  unfold f_Log_runsRotation
  try dsimp only
  repeat' (first | refine ib_ite ?_ ?_ | refine ib_ite0 ?_ ?_ | with_reducible exact ib0 | with_reducible exact ib1 | with_reducible exact ib_Ins_has _ _ | (dsimp only; first | exact ib0 | exact ib1))
theorem nb_Log_runsRotation (g : Nat → Int32) (sp : Nat → Int32) (iw : Int32) (io : Int32) (id : Int32) (ia : Int32) (ib : Int32) : narrow .boolean (.int (f_Log_runsRotation g sp iw io id ia ib).1) = .int (f_Log_runsRotation g sp iw io id ia ib).1 := nb_of (ib_Log_runsRotation g sp iw io id ia ib)
set_option maxHeartbeats 4000000 in
set_option maxRecDepth 100000 in
theorem c_Log_runsRotation (l : Launch) (D : va_G) (aS aG aX aI aL : Nat) (cG cX : ClassId) (g : Nat → Int32) (sp : Nat → Int32) (nx : Int32) (lt : Int32) (sm : Int32) (ex : Int32) (iw : Int32) (io : Int32) (id : Int32) (ia : Int32) (ib : Int32) (ii : Int32) (is : Int32) (iu : Int32) (_q0 : Nat) : kMi l y_Log_runsRotation b_Log_runsRotation 6 (some .boolean) 2 51 D kCl [(cG, .int), (cX, .int)] [.ref aL, .ref aI] [(aS, .inr (9, [.ref aG, .ref aX, .int nx, .int lt, .int sm, .int ex])), (aG, .inl (cG, 32, .inl g)), (aX, .inl (cX, 64, .inl sp)), (aI, .inr (5, [.int iw, .int io, .int id, .int ia, .int ib, .int ii, .int is, .int iu])), (aL, .inr (6, [.ref aS]))] (f_Log_runsRotation g sp iw io id ia ib).1 [(aS, .inr (9, [.ref aG, .ref aX, .int nx, .int lt, .int sm, .int ex])), (aG, .inl (cG, 32, .inl (f_Log_runsRotation g sp iw io id ia ib).2.1)), (aX, .inl (cX, 64, .inl (f_Log_runsRotation g sp iw io id ia ib).2.2)), (aI, .inr (5, [.int iw, .int io, .int id, .int ia, .int ib, .int ii, .int is, .int iu])), (aL, .inr (6, [.ref aS]))] := by
  refine k_entry (Qc := fun A => kQi D kCl [(cG, .int), (cX, .int)] (f_Log_runsRotation g sp iw io id ia ib).1 [(aS, .inr (9, [.ref aG, .ref aX, .int nx, .int lt, .int sm, .int ex])), (aG, .inl (cG, 32, .inl (f_Log_runsRotation g sp iw io id ia ib).2.1)), (aX, .inl (cX, 64, .inl (f_Log_runsRotation g sp iw io id ia ib).2.2)), (aI, .inr (5, [.int iw, .int io, .int id, .int ia, .int ib, .int ii, .int is, .int iu])), (aL, .inr (6, [.ref aS]))] A) (lv := [(0, .ref aL), (1, .ref aI)]) (by decide) (Nat.le_of_ble_eq_true rfl) rfl ?_
  intro p e s m below meth c A ls hx hb hr hml hB hown hlocks hin hA hK hN hP hD hS hl
  have hown : s.vm.findClass "MappedProcessor$Logic" = some m.cls := hown
  refine lv_aload_n hx hb d_Log_runsRotation_0 rfl (lv_at hl 1 rfl) ?_
  refine va_get (D := D) (ci := 5) (v := .int io) (C := "MappedProcessor$Instruction") (T := T_Ins) (N := 8) hx hb hB iw_Ins hown hK hP 3 rfl rfl 1 (by decide) (hB _ mw_88) (fun _ h9 => h9) rfl d_Log_runsRotation_1 ?_
  refine lv_bipush (v := (23 : Int32)) hx hb d_Log_runsRotation_4 (by decide) ?_
  refine lv_icmp_ne (tgt := 26) hx hb d_Log_runsRotation_6 (by decide) (fun (h4 : ¬ io = (23 : Int32)) => ?_) (fun (h4 : io = (23 : Int32)) => ?_)
  · refine lv_aload_n hx hb d_Log_runsRotation_26 rfl (lv_at hl 1 rfl) ?_
    refine va_get (D := D) (ci := 5) (v := .int ib) (C := "MappedProcessor$Instruction") (T := T_Ins) (N := 8) hx hb hB iw_Ins hown hK hP 3 rfl rfl 4 (by decide) (hB _ mw_105) (fun _ h9 => h9) rfl d_Log_runsRotation_27 ?_
    refine lv_istore_n (lv' := [(2, .int ib), (0, .ref aL), (1, .ref aI)]) hx hb d_Log_runsRotation_30 rfl hl (by decide) rfl (fun ls hl => ?_)
    refine lv_aload_n hx hb d_Log_runsRotation_31 rfl (lv_at hl 1 rfl) ?_
    refine va_get (D := D) (ci := 6) (v := .ref aS) (C := "MappedProcessor$Logic") (T := T_Log) (N := 1) hx hb hB iw_Log hown hK hP 4 rfl rfl 0 (by decide) (hB _ mw_169) (fun _ h9 => h9) rfl d_Log_runsRotation_32 ?_
    refine lv_aload_n hx hb d_Log_runsRotation_35 rfl (lv_at hl 2 rfl) ?_
    refine va_get (D := D) (ci := 5) (v := .int id) (C := "MappedProcessor$Instruction") (T := T_Ins) (N := 8) hx hb hB iw_Ins hown hK hP 3 rfl rfl 2 (by decide) (hB _ mw_90) (fun _ h9 => h9) rfl d_Log_runsRotation_36 ?_
    refine k_cVi (As := [.int id]) (rest := []) (wr := [(aI, .inr (5, [.int iw, .int io, .int id, .int ia, .int ib, .int ii, .int is, .int iu])), (aL, .inr (6, [.ref aS]))]) (wj := [(aS, .inr (9, [.ref aG, .ref aX, .int nx, .int lt, .int sm, .int ex])), (aG, .inl (cG, 32, .inl g)), (aX, .inl (cX, 64, .inl sp)), (aI, .inr (5, [.int iw, .int io, .int id, .int ia, .int ib, .int ii, .int is, .int iu])), (aL, .inr (6, [.ref aS]))]) ⟨hx, hb, hml, hown, hB⟩ (c_Sta_register l D aS aG aX cG cX g sp nx lt sm ex id) yl_Sta_register mw_483 hK hN hP hD hS hA [0, 1] [0, 1, 2] [3, 4] [2, 3, 4, 0, 1] rfl rfl rfl rfl (by decide +kernel) 0 rfl rfl rfl rfl hl.1 rfl (Nat.le_of_ble_eq_true rfl) ⟨Nat.le_of_ble_eq_true rfl, Nat.le_of_ble_eq_true rfl⟩ d_Log_runsRotation_39 ⟨Nat.le_of_ble_eq_true rfl, Nat.le_of_ble_eq_true rfl⟩ (fun H locs hP hD hS => ?_)
    refine lv_iload_n hx hb d_Log_runsRotation_42 rfl (lv_at hl 0 rfl) ?_
    refine k_cSi (As := [.int (f_Sta_register id g), .int ib]) (rest := []) (wr := [(aS, .inr (9, [.ref aG, .ref aX, .int nx, .int lt, .int sm, .int ex])), (aG, .inl (cG, 32, .inl g)), (aX, .inl (cX, 64, .inl sp)), (aI, .inr (5, [.int iw, .int io, .int id, .int ia, .int ib, .int ii, .int is, .int iu])), (aL, .inr (6, [.ref aS]))]) (wj := [(aS, .inr (9, [.ref aG, .ref aX, .int nx, .int lt, .int sm, .int ex])), (aG, .inl (cG, 32, .inl g)), (aX, .inl (cX, 64, .inl sp)), (aI, .inr (5, [.int iw, .int io, .int id, .int ia, .int ib, .int ii, .int is, .int iu])), (aL, .inr (6, [.ref aS]))]) ⟨hx, hb, hml, hown, hB⟩ (c_Int_rotateLeft l D (f_Sta_register id g) ib) yl_Int_rotateLeft mw_484 hK hN hP hD hS hA [] [] [0, 1, 2, 3, 4] [0, 1, 2, 3, 4] rfl rfl rfl rfl (by decide +kernel) rfl hl.1 rfl (Nat.le_of_ble_eq_true rfl) ⟨Nat.le_of_ble_eq_true rfl, Nat.le_of_ble_eq_true rfl⟩ d_Log_runsRotation_43 ⟨Nat.le_of_ble_eq_true rfl, Nat.le_of_ble_eq_true rfl⟩ (fun H locs hP hD hS => ?_)
    refine lv_istore_n (lv' := [(3, .int (f_Int_rotateLeft (f_Sta_register id g) ib)), (2, .int ib), (0, .ref aL), (1, .ref aI)]) hx hb d_Log_runsRotation_46 rfl hl (by decide) rfl (fun ls hl => ?_)
    refine lv_aload_n hx hb d_Log_runsRotation_47 rfl (lv_at hl 3 rfl) ?_
    refine va_get (D := D) (ci := 5) (v := .int iw) (C := "MappedProcessor$Instruction") (T := T_Ins) (N := 8) hx hb hB iw_Ins hown hK hP 3 rfl rfl 0 (by decide) (hB _ mw_82) (fun _ h9 => h9) rfl d_Log_runsRotation_48 ?_
    refine lv_bipush (v := (6 : Int32)) hx hb d_Log_runsRotation_51 (by decide) ?_
    refine lv_ishr hx hb d_Log_runsRotation_53 ?_
    refine lv_bipush (v := (31 : Int32)) hx hb d_Log_runsRotation_54 (by decide) ?_
    refine lv_iand hx hb d_Log_runsRotation_56 ?_
    refine lv_aload_n hx hb d_Log_runsRotation_57 rfl (lv_at hl 3 rfl) ?_
    refine va_get (D := D) (ci := 5) (v := .int iw) (C := "MappedProcessor$Instruction") (T := T_Ins) (N := 8) hx hb hB iw_Ins hown hK hP 3 rfl rfl 0 (by decide) (hB _ mw_82) (fun _ h9 => h9) rfl d_Log_runsRotation_58 ?_
    refine lv_iconst (v := (1 : Int32)) hx hb d_Log_runsRotation_61 (by decide) ?_
    refine lv_ishr hx hb d_Log_runsRotation_62 ?_
    refine lv_bipush (v := (31 : Int32)) hx hb d_Log_runsRotation_63 (by decide) ?_
    refine lv_iand hx hb d_Log_runsRotation_65 ?_
    refine k_cSi (As := [.int ((shr iw (6 : Int32)) &&& (31 : Int32)), .int ((shr iw (1 : Int32)) &&& (31 : Int32))]) (rest := []) (wr := [(aS, .inr (9, [.ref aG, .ref aX, .int nx, .int lt, .int sm, .int ex])), (aG, .inl (cG, 32, .inl g)), (aX, .inl (cX, 64, .inl sp)), (aI, .inr (5, [.int iw, .int io, .int id, .int ia, .int ib, .int ii, .int is, .int iu])), (aL, .inr (6, [.ref aS]))]) (wj := [(aS, .inr (9, [.ref aG, .ref aX, .int nx, .int lt, .int sm, .int ex])), (aG, .inl (cG, 32, .inl g)), (aX, .inl (cX, 64, .inl sp)), (aI, .inr (5, [.int iw, .int io, .int id, .int ia, .int ib, .int ii, .int is, .int iu])), (aL, .inr (6, [.ref aS]))]) ⟨hx, hb, hml, hown, hB⟩ (c_Log_mask l D ((shr iw (6 : Int32)) &&& (31 : Int32)) ((shr iw (1 : Int32)) &&& (31 : Int32))) yl_Log_mask mw_487 hK hN hP hD hS hA [] [] [0, 1, 2, 3, 4] [0, 1, 2, 3, 4] rfl rfl rfl rfl (by decide +kernel) rfl hl.1 rfl (Nat.le_of_ble_eq_true rfl) ⟨Nat.le_of_ble_eq_true rfl, Nat.le_of_ble_eq_true rfl⟩ d_Log_runsRotation_66 ⟨Nat.le_of_ble_eq_true rfl, Nat.le_of_ble_eq_true rfl⟩ (fun H locs hP hD hS => ?_)
    refine lv_istore (lv' := [(4, .int (f_Log_mask ((shr iw (6 : Int32)) &&& (31 : Int32)) ((shr iw (1 : Int32)) &&& (31 : Int32)))), (3, .int (f_Int_rotateLeft (f_Sta_register id g) ib)), (2, .int ib), (0, .ref aL), (1, .ref aI)]) hx hb d_Log_runsRotation_69 hl (by decide) rfl (fun ls hl => ?_)
    refine lv_aload_n hx hb d_Log_runsRotation_71 rfl (lv_at hl 4 rfl) ?_
    refine va_get (D := D) (ci := 5) (v := .int io) (C := "MappedProcessor$Instruction") (T := T_Ins) (N := 8) hx hb hB iw_Ins hown hK hP 3 rfl rfl 1 (by decide) (hB _ mw_88) (fun _ h9 => h9) rfl d_Log_runsRotation_72 ?_
    refine lv_bipush (v := (20 : Int32)) hx hb d_Log_runsRotation_75 (by decide) ?_
    refine lv_icmp_ne (tgt := 99) hx hb d_Log_runsRotation_77 (by decide) (fun (h8 : ¬ io = (20 : Int32)) => ?_) (fun (h8 : io = (20 : Int32)) => ?_)
    · refine lv_iconst (v := (0 : Int32)) hx hb d_Log_runsRotation_99 (by decide) ?_
      refine lv_istore (lv' := [(5, .int (0 : Int32)), (4, .int (f_Log_mask ((shr iw (6 : Int32)) &&& (31 : Int32)) ((shr iw (1 : Int32)) &&& (31 : Int32)))), (3, .int (f_Int_rotateLeft (f_Sta_register id g) ib)), (2, .int ib), (0, .ref aL), (1, .ref aI)]) hx hb d_Log_runsRotation_100 hl (by decide) rfl (fun ls hl => ?_)
      refine lv_aload_n hx hb d_Log_runsRotation_102 rfl (lv_at hl 4 rfl) ?_
      refine va_get (D := D) (ci := 6) (v := .ref aS) (C := "MappedProcessor$Logic") (T := T_Log) (N := 1) hx hb hB iw_Log hown hK hP 4 rfl rfl 0 (by decide) (hB _ mw_169) (fun _ h9 => h9) rfl d_Log_runsRotation_103 ?_
      refine lv_aload_n hx hb d_Log_runsRotation_106 rfl (lv_at hl 5 rfl) ?_
      refine va_get (D := D) (ci := 5) (v := .int ia) (C := "MappedProcessor$Instruction") (T := T_Ins) (N := 8) hx hb hB iw_Ins hown hK hP 3 rfl rfl 3 (by decide) (hB _ mw_102) (fun _ h9 => h9) rfl d_Log_runsRotation_107 ?_
      refine lv_iload hx hb d_Log_runsRotation_110 (lv_at hl 0 rfl) ?_
      refine lv_iload_n hx hb d_Log_runsRotation_112 rfl (lv_at hl 2 rfl) ?_
      refine lv_iload hx hb d_Log_runsRotation_113 (lv_at hl 1 rfl) ?_
      refine lv_iand hx hb d_Log_runsRotation_115 ?_
      refine lv_ior hx hb d_Log_runsRotation_116 ?_
      refine lv_aload_n hx hb d_Log_runsRotation_117 rfl (lv_at hl 5 rfl) ?_
      refine lv_iconst (v := (1 : Int32)) hx hb d_Log_runsRotation_118 (by decide) ?_
      refine k_cVi (As := [.int (1 : Int32)]) (rest := [.int ((0 : Int32) ||| ((f_Int_rotateLeft (f_Sta_register id g) ib) &&& (f_Log_mask ((shr iw (6 : Int32)) &&& (31 : Int32)) ((shr iw (1 : Int32)) &&& (31 : Int32))))), .int ia, .ref aS]) (wr := [(aS, .inr (9, [.ref aG, .ref aX, .int nx, .int lt, .int sm, .int ex])), (aG, .inl (cG, 32, .inl g)), (aX, .inl (cX, 64, .inl sp)), (aL, .inr (6, [.ref aS]))]) (wj := [(aS, .inr (9, [.ref aG, .ref aX, .int nx, .int lt, .int sm, .int ex])), (aG, .inl (cG, 32, .inl g)), (aX, .inl (cX, 64, .inl sp)), (aI, .inr (5, [.int iw, .int io, .int id, .int ia, .int ib, .int ii, .int is, .int iu])), (aL, .inr (6, [.ref aS]))]) ⟨hx, hb, hml, hown, hB⟩ (c_Ins_has l D aI iw io id ia ib ii is iu (1 : Int32)) yl_Ins_has mw_490 hK hN hP hD hS hA [] [3] [0, 1, 2, 4] [0, 1, 2, 4, 3] rfl rfl rfl rfl (by decide +kernel) 0 rfl rfl rfl rfl hl.1 rfl (Nat.le_of_ble_eq_true rfl) ⟨Nat.le_of_ble_eq_true rfl, Nat.le_of_ble_eq_true rfl⟩ d_Log_runsRotation_119 ⟨Nat.le_of_ble_eq_true rfl, Nat.le_of_ble_eq_true rfl⟩ (fun H locs hP hD hS => ?_)
      let t9 := (f_Sta_keepResult ia ((0 : Int32) ||| ((f_Int_rotateLeft (f_Sta_register id g) ib) &&& (f_Log_mask ((shr iw (6 : Int32)) &&& (31 : Int32)) ((shr iw (1 : Int32)) &&& (31 : Int32))))) (f_Ins_has (1 : Int32) iw) g sp)
      refine k_cVv (As := [.int ia, .int ((0 : Int32) ||| ((f_Int_rotateLeft (f_Sta_register id g) ib) &&& (f_Log_mask ((shr iw (6 : Int32)) &&& (31 : Int32)) ((shr iw (1 : Int32)) &&& (31 : Int32))))), .int (f_Ins_has (1 : Int32) iw)]) (rest := []) (wr := [(aI, .inr (5, [.int iw, .int io, .int id, .int ia, .int ib, .int ii, .int is, .int iu])), (aL, .inr (6, [.ref aS]))]) (wj := [(aS, .inr (9, [.ref aG, .ref aX, .int nx, .int lt, .int sm, .int ex])), (aG, .inl (cG, 32, .inl t9.1)), (aX, .inl (cX, 64, .inl t9.2)), (aI, .inr (5, [.int iw, .int io, .int id, .int ia, .int ib, .int ii, .int is, .int iu])), (aL, .inr (6, [.ref aS]))]) ⟨hx, hb, hml, hown, hB⟩ (c_Sta_keepResult l D aS aG aX cG cX g sp nx lt sm ex ia ((0 : Int32) ||| ((f_Int_rotateLeft (f_Sta_register id g) ib) &&& (f_Log_mask ((shr iw (6 : Int32)) &&& (31 : Int32)) ((shr iw (1 : Int32)) &&& (31 : Int32))))) (f_Ins_has (1 : Int32) iw)) yl_Sta_keepResult mw_491 hK hN hP hD hS hA [0, 1] [0, 1, 2] [3, 4] [2, 3, 4, 0, 1] rfl rfl rfl rfl (by decide +kernel) 0 rfl rfl rfl rfl hl.1 rfl (Nat.le_of_ble_eq_true rfl) ⟨Nat.le_of_ble_eq_true rfl, Nat.le_of_ble_eq_true rfl⟩ d_Log_runsRotation_122 ⟨Nat.le_of_ble_eq_true rfl, Nat.le_of_ble_eq_true rfl⟩ (fun H locs hP hD hS => ?_)
      refine lv_iconst (v := (1 : Int32)) hx hb d_Log_runsRotation_125 (by decide) ?_
      have ef : f_Log_runsRotation g sp iw io id ia ib = ((1 : Int32), t9.1, t9.2) := by unfold f_Log_runsRotation; try dsimp only; rw [if_neg h4, if_neg h8]
      exact k_zret hx hb hr hlocks hK hP hD hS [0, 1, 2, 3, 4] rfl (by rw [ef] <;> rfl) (by rw [ef] <;> rfl) nb1 d_Log_runsRotation_126
    · refine lv_aload_n hx hb d_Log_runsRotation_80 rfl (lv_at hl 3 rfl) ?_
      refine va_get (D := D) (ci := 6) (v := .ref aS) (C := "MappedProcessor$Logic") (T := T_Log) (N := 1) hx hb hB iw_Log hown hK hP 4 rfl rfl 0 (by decide) (hB _ mw_169) (fun _ h9 => h9) rfl d_Log_runsRotation_81 ?_
      refine lv_aload_n hx hb d_Log_runsRotation_84 rfl (lv_at hl 4 rfl) ?_
      refine va_get (D := D) (ci := 5) (v := .int ia) (C := "MappedProcessor$Instruction") (T := T_Ins) (N := 8) hx hb hB iw_Ins hown hK hP 3 rfl rfl 3 (by decide) (hB _ mw_102) (fun _ h9 => h9) rfl d_Log_runsRotation_85 ?_
      refine k_cVi (As := [.int ia]) (rest := []) (wr := [(aI, .inr (5, [.int iw, .int io, .int id, .int ia, .int ib, .int ii, .int is, .int iu])), (aL, .inr (6, [.ref aS]))]) (wj := [(aS, .inr (9, [.ref aG, .ref aX, .int nx, .int lt, .int sm, .int ex])), (aG, .inl (cG, 32, .inl g)), (aX, .inl (cX, 64, .inl sp)), (aI, .inr (5, [.int iw, .int io, .int id, .int ia, .int ib, .int ii, .int is, .int iu])), (aL, .inr (6, [.ref aS]))]) ⟨hx, hb, hml, hown, hB⟩ (c_Sta_register l D aS aG aX cG cX g sp nx lt sm ex ia) yl_Sta_register mw_483 hK hN hP hD hS hA [0, 1] [0, 1, 2] [3, 4] [2, 3, 4, 0, 1] rfl rfl rfl rfl (by decide +kernel) 0 rfl rfl rfl rfl hl.1 rfl (Nat.le_of_ble_eq_true rfl) ⟨Nat.le_of_ble_eq_true rfl, Nat.le_of_ble_eq_true rfl⟩ d_Log_runsRotation_88 ⟨Nat.le_of_ble_eq_true rfl, Nat.le_of_ble_eq_true rfl⟩ (fun H locs hP hD hS => ?_)
      refine lv_iload hx hb d_Log_runsRotation_91 (lv_at hl 0 rfl) ?_
      refine lv_iconst (v := (-1 : Int32)) hx hb d_Log_runsRotation_93 (by decide) ?_
      refine lv_ixor hx hb d_Log_runsRotation_94 ?_
      refine lv_iand hx hb d_Log_runsRotation_95 ?_
      refine lv_goto (tgt := 100) hx hb d_Log_runsRotation_96 (by decide) ?_
      refine lv_istore (lv' := [(5, .int ((f_Sta_register ia g) &&& ((f_Log_mask ((shr iw (6 : Int32)) &&& (31 : Int32)) ((shr iw (1 : Int32)) &&& (31 : Int32))) ^^^ (-1 : Int32)))), (4, .int (f_Log_mask ((shr iw (6 : Int32)) &&& (31 : Int32)) ((shr iw (1 : Int32)) &&& (31 : Int32)))), (3, .int (f_Int_rotateLeft (f_Sta_register id g) ib)), (2, .int ib), (0, .ref aL), (1, .ref aI)]) hx hb d_Log_runsRotation_100 hl (by decide) rfl (fun ls hl => ?_)
      refine lv_aload_n hx hb d_Log_runsRotation_102 rfl (lv_at hl 4 rfl) ?_
      refine va_get (D := D) (ci := 6) (v := .ref aS) (C := "MappedProcessor$Logic") (T := T_Log) (N := 1) hx hb hB iw_Log hown hK hP 4 rfl rfl 0 (by decide) (hB _ mw_169) (fun _ h9 => h9) rfl d_Log_runsRotation_103 ?_
      refine lv_aload_n hx hb d_Log_runsRotation_106 rfl (lv_at hl 5 rfl) ?_
      refine va_get (D := D) (ci := 5) (v := .int ia) (C := "MappedProcessor$Instruction") (T := T_Ins) (N := 8) hx hb hB iw_Ins hown hK hP 3 rfl rfl 3 (by decide) (hB _ mw_102) (fun _ h9 => h9) rfl d_Log_runsRotation_107 ?_
      refine lv_iload hx hb d_Log_runsRotation_110 (lv_at hl 0 rfl) ?_
      refine lv_iload_n hx hb d_Log_runsRotation_112 rfl (lv_at hl 2 rfl) ?_
      refine lv_iload hx hb d_Log_runsRotation_113 (lv_at hl 1 rfl) ?_
      refine lv_iand hx hb d_Log_runsRotation_115 ?_
      refine lv_ior hx hb d_Log_runsRotation_116 ?_
      refine lv_aload_n hx hb d_Log_runsRotation_117 rfl (lv_at hl 5 rfl) ?_
      refine lv_iconst (v := (1 : Int32)) hx hb d_Log_runsRotation_118 (by decide) ?_
      refine k_cVi (As := [.int (1 : Int32)]) (rest := [.int (((f_Sta_register ia g) &&& ((f_Log_mask ((shr iw (6 : Int32)) &&& (31 : Int32)) ((shr iw (1 : Int32)) &&& (31 : Int32))) ^^^ (-1 : Int32))) ||| ((f_Int_rotateLeft (f_Sta_register id g) ib) &&& (f_Log_mask ((shr iw (6 : Int32)) &&& (31 : Int32)) ((shr iw (1 : Int32)) &&& (31 : Int32))))), .int ia, .ref aS]) (wr := [(aS, .inr (9, [.ref aG, .ref aX, .int nx, .int lt, .int sm, .int ex])), (aG, .inl (cG, 32, .inl g)), (aX, .inl (cX, 64, .inl sp)), (aL, .inr (6, [.ref aS]))]) (wj := [(aS, .inr (9, [.ref aG, .ref aX, .int nx, .int lt, .int sm, .int ex])), (aG, .inl (cG, 32, .inl g)), (aX, .inl (cX, 64, .inl sp)), (aI, .inr (5, [.int iw, .int io, .int id, .int ia, .int ib, .int ii, .int is, .int iu])), (aL, .inr (6, [.ref aS]))]) ⟨hx, hb, hml, hown, hB⟩ (c_Ins_has l D aI iw io id ia ib ii is iu (1 : Int32)) yl_Ins_has mw_490 hK hN hP hD hS hA [] [3] [0, 1, 2, 4] [0, 1, 2, 4, 3] rfl rfl rfl rfl (by decide +kernel) 0 rfl rfl rfl rfl hl.1 rfl (Nat.le_of_ble_eq_true rfl) ⟨Nat.le_of_ble_eq_true rfl, Nat.le_of_ble_eq_true rfl⟩ d_Log_runsRotation_119 ⟨Nat.le_of_ble_eq_true rfl, Nat.le_of_ble_eq_true rfl⟩ (fun H locs hP hD hS => ?_)
      let t10 := (f_Sta_keepResult ia (((f_Sta_register ia g) &&& ((f_Log_mask ((shr iw (6 : Int32)) &&& (31 : Int32)) ((shr iw (1 : Int32)) &&& (31 : Int32))) ^^^ (-1 : Int32))) ||| ((f_Int_rotateLeft (f_Sta_register id g) ib) &&& (f_Log_mask ((shr iw (6 : Int32)) &&& (31 : Int32)) ((shr iw (1 : Int32)) &&& (31 : Int32))))) (f_Ins_has (1 : Int32) iw) g sp)
      refine k_cVv (As := [.int ia, .int (((f_Sta_register ia g) &&& ((f_Log_mask ((shr iw (6 : Int32)) &&& (31 : Int32)) ((shr iw (1 : Int32)) &&& (31 : Int32))) ^^^ (-1 : Int32))) ||| ((f_Int_rotateLeft (f_Sta_register id g) ib) &&& (f_Log_mask ((shr iw (6 : Int32)) &&& (31 : Int32)) ((shr iw (1 : Int32)) &&& (31 : Int32))))), .int (f_Ins_has (1 : Int32) iw)]) (rest := []) (wr := [(aI, .inr (5, [.int iw, .int io, .int id, .int ia, .int ib, .int ii, .int is, .int iu])), (aL, .inr (6, [.ref aS]))]) (wj := [(aS, .inr (9, [.ref aG, .ref aX, .int nx, .int lt, .int sm, .int ex])), (aG, .inl (cG, 32, .inl t10.1)), (aX, .inl (cX, 64, .inl t10.2)), (aI, .inr (5, [.int iw, .int io, .int id, .int ia, .int ib, .int ii, .int is, .int iu])), (aL, .inr (6, [.ref aS]))]) ⟨hx, hb, hml, hown, hB⟩ (c_Sta_keepResult l D aS aG aX cG cX g sp nx lt sm ex ia (((f_Sta_register ia g) &&& ((f_Log_mask ((shr iw (6 : Int32)) &&& (31 : Int32)) ((shr iw (1 : Int32)) &&& (31 : Int32))) ^^^ (-1 : Int32))) ||| ((f_Int_rotateLeft (f_Sta_register id g) ib) &&& (f_Log_mask ((shr iw (6 : Int32)) &&& (31 : Int32)) ((shr iw (1 : Int32)) &&& (31 : Int32))))) (f_Ins_has (1 : Int32) iw)) yl_Sta_keepResult mw_491 hK hN hP hD hS hA [0, 1] [0, 1, 2] [3, 4] [2, 3, 4, 0, 1] rfl rfl rfl rfl (by decide +kernel) 0 rfl rfl rfl rfl hl.1 rfl (Nat.le_of_ble_eq_true rfl) ⟨Nat.le_of_ble_eq_true rfl, Nat.le_of_ble_eq_true rfl⟩ d_Log_runsRotation_122 ⟨Nat.le_of_ble_eq_true rfl, Nat.le_of_ble_eq_true rfl⟩ (fun H locs hP hD hS => ?_)
      refine lv_iconst (v := (1 : Int32)) hx hb d_Log_runsRotation_125 (by decide) ?_
      have ef : f_Log_runsRotation g sp iw io id ia ib = ((1 : Int32), t10.1, t10.2) := by unfold f_Log_runsRotation; try dsimp only; rw [if_neg h4, if_pos h8]
      exact k_zret hx hb hr hlocks hK hP hD hS [0, 1, 2, 3, 4] rfl (by rw [ef] <;> rfl) (by rw [ef] <;> rfl) nb1 d_Log_runsRotation_126
  · refine lv_aload_n hx hb d_Log_runsRotation_9 rfl (lv_at hl 0 rfl) ?_
    refine va_get (D := D) (ci := 6) (v := .ref aS) (C := "MappedProcessor$Logic") (T := T_Log) (N := 1) hx hb hB iw_Log hown hK hP 4 rfl rfl 0 (by decide) (hB _ mw_169) (fun _ h9 => h9) rfl d_Log_runsRotation_10 ?_
    refine lv_aload_n hx hb d_Log_runsRotation_13 rfl (lv_at hl 1 rfl) ?_
    refine va_get (D := D) (ci := 5) (v := .int ib) (C := "MappedProcessor$Instruction") (T := T_Ins) (N := 8) hx hb hB iw_Ins hown hK hP 3 rfl rfl 4 (by decide) (hB _ mw_105) (fun _ h9 => h9) rfl d_Log_runsRotation_14 ?_
    refine k_cVi (As := [.int ib]) (rest := []) (wr := [(aI, .inr (5, [.int iw, .int io, .int id, .int ia, .int ib, .int ii, .int is, .int iu])), (aL, .inr (6, [.ref aS]))]) (wj := [(aS, .inr (9, [.ref aG, .ref aX, .int nx, .int lt, .int sm, .int ex])), (aG, .inl (cG, 32, .inl g)), (aX, .inl (cX, 64, .inl sp)), (aI, .inr (5, [.int iw, .int io, .int id, .int ia, .int ib, .int ii, .int is, .int iu])), (aL, .inr (6, [.ref aS]))]) ⟨hx, hb, hml, hown, hB⟩ (c_Sta_register l D aS aG aX cG cX g sp nx lt sm ex ib) yl_Sta_register mw_483 hK hN hP hD hS hA [0, 1] [0, 1, 2] [3, 4] [2, 3, 4, 0, 1] rfl rfl rfl rfl (by decide +kernel) 0 rfl rfl rfl rfl hl.1 rfl (Nat.le_of_ble_eq_true rfl) ⟨Nat.le_of_ble_eq_true rfl, Nat.le_of_ble_eq_true rfl⟩ d_Log_runsRotation_17 ⟨Nat.le_of_ble_eq_true rfl, Nat.le_of_ble_eq_true rfl⟩ (fun H locs hP hD hS => ?_)
    refine lv_bipush (v := (31 : Int32)) hx hb d_Log_runsRotation_20 (by decide) ?_
    refine lv_iand hx hb d_Log_runsRotation_22 ?_
    refine lv_goto (tgt := 30) hx hb d_Log_runsRotation_23 (by decide) ?_
    refine lv_istore_n (lv' := [(2, .int ((f_Sta_register ib g) &&& (31 : Int32))), (0, .ref aL), (1, .ref aI)]) hx hb d_Log_runsRotation_30 rfl hl (by decide) rfl (fun ls hl => ?_)
    refine lv_aload_n hx hb d_Log_runsRotation_31 rfl (lv_at hl 1 rfl) ?_
    refine va_get (D := D) (ci := 6) (v := .ref aS) (C := "MappedProcessor$Logic") (T := T_Log) (N := 1) hx hb hB iw_Log hown hK hP 4 rfl rfl 0 (by decide) (hB _ mw_169) (fun _ h9 => h9) rfl d_Log_runsRotation_32 ?_
    refine lv_aload_n hx hb d_Log_runsRotation_35 rfl (lv_at hl 2 rfl) ?_
    refine va_get (D := D) (ci := 5) (v := .int id) (C := "MappedProcessor$Instruction") (T := T_Ins) (N := 8) hx hb hB iw_Ins hown hK hP 3 rfl rfl 2 (by decide) (hB _ mw_90) (fun _ h9 => h9) rfl d_Log_runsRotation_36 ?_
    refine k_cVi (As := [.int id]) (rest := []) (wr := [(aI, .inr (5, [.int iw, .int io, .int id, .int ia, .int ib, .int ii, .int is, .int iu])), (aL, .inr (6, [.ref aS]))]) (wj := [(aS, .inr (9, [.ref aG, .ref aX, .int nx, .int lt, .int sm, .int ex])), (aG, .inl (cG, 32, .inl g)), (aX, .inl (cX, 64, .inl sp)), (aI, .inr (5, [.int iw, .int io, .int id, .int ia, .int ib, .int ii, .int is, .int iu])), (aL, .inr (6, [.ref aS]))]) ⟨hx, hb, hml, hown, hB⟩ (c_Sta_register l D aS aG aX cG cX g sp nx lt sm ex id) yl_Sta_register mw_483 hK hN hP hD hS hA [0, 1] [0, 1, 2] [3, 4] [2, 3, 4, 0, 1] rfl rfl rfl rfl (by decide +kernel) 0 rfl rfl rfl rfl hl.1 rfl (Nat.le_of_ble_eq_true rfl) ⟨Nat.le_of_ble_eq_true rfl, Nat.le_of_ble_eq_true rfl⟩ d_Log_runsRotation_39 ⟨Nat.le_of_ble_eq_true rfl, Nat.le_of_ble_eq_true rfl⟩ (fun H locs hP hD hS => ?_)
    refine lv_iload_n hx hb d_Log_runsRotation_42 rfl (lv_at hl 0 rfl) ?_
    refine k_cSi (As := [.int (f_Sta_register id g), .int ((f_Sta_register ib g) &&& (31 : Int32))]) (rest := []) (wr := [(aS, .inr (9, [.ref aG, .ref aX, .int nx, .int lt, .int sm, .int ex])), (aG, .inl (cG, 32, .inl g)), (aX, .inl (cX, 64, .inl sp)), (aI, .inr (5, [.int iw, .int io, .int id, .int ia, .int ib, .int ii, .int is, .int iu])), (aL, .inr (6, [.ref aS]))]) (wj := [(aS, .inr (9, [.ref aG, .ref aX, .int nx, .int lt, .int sm, .int ex])), (aG, .inl (cG, 32, .inl g)), (aX, .inl (cX, 64, .inl sp)), (aI, .inr (5, [.int iw, .int io, .int id, .int ia, .int ib, .int ii, .int is, .int iu])), (aL, .inr (6, [.ref aS]))]) ⟨hx, hb, hml, hown, hB⟩ (c_Int_rotateLeft l D (f_Sta_register id g) ((f_Sta_register ib g) &&& (31 : Int32))) yl_Int_rotateLeft mw_484 hK hN hP hD hS hA [] [] [0, 1, 2, 3, 4] [0, 1, 2, 3, 4] rfl rfl rfl rfl (by decide +kernel) rfl hl.1 rfl (Nat.le_of_ble_eq_true rfl) ⟨Nat.le_of_ble_eq_true rfl, Nat.le_of_ble_eq_true rfl⟩ d_Log_runsRotation_43 ⟨Nat.le_of_ble_eq_true rfl, Nat.le_of_ble_eq_true rfl⟩ (fun H locs hP hD hS => ?_)
    refine lv_istore_n (lv' := [(3, .int (f_Int_rotateLeft (f_Sta_register id g) ((f_Sta_register ib g) &&& (31 : Int32)))), (2, .int ((f_Sta_register ib g) &&& (31 : Int32))), (0, .ref aL), (1, .ref aI)]) hx hb d_Log_runsRotation_46 rfl hl (by decide) rfl (fun ls hl => ?_)
    refine lv_aload_n hx hb d_Log_runsRotation_47 rfl (lv_at hl 3 rfl) ?_
    refine va_get (D := D) (ci := 5) (v := .int iw) (C := "MappedProcessor$Instruction") (T := T_Ins) (N := 8) hx hb hB iw_Ins hown hK hP 3 rfl rfl 0 (by decide) (hB _ mw_82) (fun _ h9 => h9) rfl d_Log_runsRotation_48 ?_
    refine lv_bipush (v := (6 : Int32)) hx hb d_Log_runsRotation_51 (by decide) ?_
    refine lv_ishr hx hb d_Log_runsRotation_53 ?_
    refine lv_bipush (v := (31 : Int32)) hx hb d_Log_runsRotation_54 (by decide) ?_
    refine lv_iand hx hb d_Log_runsRotation_56 ?_
    refine lv_aload_n hx hb d_Log_runsRotation_57 rfl (lv_at hl 3 rfl) ?_
    refine va_get (D := D) (ci := 5) (v := .int iw) (C := "MappedProcessor$Instruction") (T := T_Ins) (N := 8) hx hb hB iw_Ins hown hK hP 3 rfl rfl 0 (by decide) (hB _ mw_82) (fun _ h9 => h9) rfl d_Log_runsRotation_58 ?_
    refine lv_iconst (v := (1 : Int32)) hx hb d_Log_runsRotation_61 (by decide) ?_
    refine lv_ishr hx hb d_Log_runsRotation_62 ?_
    refine lv_bipush (v := (31 : Int32)) hx hb d_Log_runsRotation_63 (by decide) ?_
    refine lv_iand hx hb d_Log_runsRotation_65 ?_
    refine k_cSi (As := [.int ((shr iw (6 : Int32)) &&& (31 : Int32)), .int ((shr iw (1 : Int32)) &&& (31 : Int32))]) (rest := []) (wr := [(aS, .inr (9, [.ref aG, .ref aX, .int nx, .int lt, .int sm, .int ex])), (aG, .inl (cG, 32, .inl g)), (aX, .inl (cX, 64, .inl sp)), (aI, .inr (5, [.int iw, .int io, .int id, .int ia, .int ib, .int ii, .int is, .int iu])), (aL, .inr (6, [.ref aS]))]) (wj := [(aS, .inr (9, [.ref aG, .ref aX, .int nx, .int lt, .int sm, .int ex])), (aG, .inl (cG, 32, .inl g)), (aX, .inl (cX, 64, .inl sp)), (aI, .inr (5, [.int iw, .int io, .int id, .int ia, .int ib, .int ii, .int is, .int iu])), (aL, .inr (6, [.ref aS]))]) ⟨hx, hb, hml, hown, hB⟩ (c_Log_mask l D ((shr iw (6 : Int32)) &&& (31 : Int32)) ((shr iw (1 : Int32)) &&& (31 : Int32))) yl_Log_mask mw_487 hK hN hP hD hS hA [] [] [0, 1, 2, 3, 4] [0, 1, 2, 3, 4] rfl rfl rfl rfl (by decide +kernel) rfl hl.1 rfl (Nat.le_of_ble_eq_true rfl) ⟨Nat.le_of_ble_eq_true rfl, Nat.le_of_ble_eq_true rfl⟩ d_Log_runsRotation_66 ⟨Nat.le_of_ble_eq_true rfl, Nat.le_of_ble_eq_true rfl⟩ (fun H locs hP hD hS => ?_)
    refine lv_istore (lv' := [(4, .int (f_Log_mask ((shr iw (6 : Int32)) &&& (31 : Int32)) ((shr iw (1 : Int32)) &&& (31 : Int32)))), (3, .int (f_Int_rotateLeft (f_Sta_register id g) ((f_Sta_register ib g) &&& (31 : Int32)))), (2, .int ((f_Sta_register ib g) &&& (31 : Int32))), (0, .ref aL), (1, .ref aI)]) hx hb d_Log_runsRotation_69 hl (by decide) rfl (fun ls hl => ?_)
    refine lv_aload_n hx hb d_Log_runsRotation_71 rfl (lv_at hl 4 rfl) ?_
    refine va_get (D := D) (ci := 5) (v := .int io) (C := "MappedProcessor$Instruction") (T := T_Ins) (N := 8) hx hb hB iw_Ins hown hK hP 3 rfl rfl 1 (by decide) (hB _ mw_88) (fun _ h9 => h9) rfl d_Log_runsRotation_72 ?_
    refine lv_bipush (v := (20 : Int32)) hx hb d_Log_runsRotation_75 (by decide) ?_
    refine lv_icmp_ne (tgt := 99) hx hb d_Log_runsRotation_77 (by decide) (fun (h14 : ¬ io = (20 : Int32)) => ?_) (fun (h14 : io = (20 : Int32)) => ?_)
    · refine lv_iconst (v := (0 : Int32)) hx hb d_Log_runsRotation_99 (by decide) ?_
      refine lv_istore (lv' := [(5, .int (0 : Int32)), (4, .int (f_Log_mask ((shr iw (6 : Int32)) &&& (31 : Int32)) ((shr iw (1 : Int32)) &&& (31 : Int32)))), (3, .int (f_Int_rotateLeft (f_Sta_register id g) ((f_Sta_register ib g) &&& (31 : Int32)))), (2, .int ((f_Sta_register ib g) &&& (31 : Int32))), (0, .ref aL), (1, .ref aI)]) hx hb d_Log_runsRotation_100 hl (by decide) rfl (fun ls hl => ?_)
      refine lv_aload_n hx hb d_Log_runsRotation_102 rfl (lv_at hl 4 rfl) ?_
      refine va_get (D := D) (ci := 6) (v := .ref aS) (C := "MappedProcessor$Logic") (T := T_Log) (N := 1) hx hb hB iw_Log hown hK hP 4 rfl rfl 0 (by decide) (hB _ mw_169) (fun _ h9 => h9) rfl d_Log_runsRotation_103 ?_
      refine lv_aload_n hx hb d_Log_runsRotation_106 rfl (lv_at hl 5 rfl) ?_
      refine va_get (D := D) (ci := 5) (v := .int ia) (C := "MappedProcessor$Instruction") (T := T_Ins) (N := 8) hx hb hB iw_Ins hown hK hP 3 rfl rfl 3 (by decide) (hB _ mw_102) (fun _ h9 => h9) rfl d_Log_runsRotation_107 ?_
      refine lv_iload hx hb d_Log_runsRotation_110 (lv_at hl 0 rfl) ?_
      refine lv_iload_n hx hb d_Log_runsRotation_112 rfl (lv_at hl 2 rfl) ?_
      refine lv_iload hx hb d_Log_runsRotation_113 (lv_at hl 1 rfl) ?_
      refine lv_iand hx hb d_Log_runsRotation_115 ?_
      refine lv_ior hx hb d_Log_runsRotation_116 ?_
      refine lv_aload_n hx hb d_Log_runsRotation_117 rfl (lv_at hl 5 rfl) ?_
      refine lv_iconst (v := (1 : Int32)) hx hb d_Log_runsRotation_118 (by decide) ?_
      refine k_cVi (As := [.int (1 : Int32)]) (rest := [.int ((0 : Int32) ||| ((f_Int_rotateLeft (f_Sta_register id g) ((f_Sta_register ib g) &&& (31 : Int32))) &&& (f_Log_mask ((shr iw (6 : Int32)) &&& (31 : Int32)) ((shr iw (1 : Int32)) &&& (31 : Int32))))), .int ia, .ref aS]) (wr := [(aS, .inr (9, [.ref aG, .ref aX, .int nx, .int lt, .int sm, .int ex])), (aG, .inl (cG, 32, .inl g)), (aX, .inl (cX, 64, .inl sp)), (aL, .inr (6, [.ref aS]))]) (wj := [(aS, .inr (9, [.ref aG, .ref aX, .int nx, .int lt, .int sm, .int ex])), (aG, .inl (cG, 32, .inl g)), (aX, .inl (cX, 64, .inl sp)), (aI, .inr (5, [.int iw, .int io, .int id, .int ia, .int ib, .int ii, .int is, .int iu])), (aL, .inr (6, [.ref aS]))]) ⟨hx, hb, hml, hown, hB⟩ (c_Ins_has l D aI iw io id ia ib ii is iu (1 : Int32)) yl_Ins_has mw_490 hK hN hP hD hS hA [] [3] [0, 1, 2, 4] [0, 1, 2, 4, 3] rfl rfl rfl rfl (by decide +kernel) 0 rfl rfl rfl rfl hl.1 rfl (Nat.le_of_ble_eq_true rfl) ⟨Nat.le_of_ble_eq_true rfl, Nat.le_of_ble_eq_true rfl⟩ d_Log_runsRotation_119 ⟨Nat.le_of_ble_eq_true rfl, Nat.le_of_ble_eq_true rfl⟩ (fun H locs hP hD hS => ?_)
      let t15 := (f_Sta_keepResult ia ((0 : Int32) ||| ((f_Int_rotateLeft (f_Sta_register id g) ((f_Sta_register ib g) &&& (31 : Int32))) &&& (f_Log_mask ((shr iw (6 : Int32)) &&& (31 : Int32)) ((shr iw (1 : Int32)) &&& (31 : Int32))))) (f_Ins_has (1 : Int32) iw) g sp)
      refine k_cVv (As := [.int ia, .int ((0 : Int32) ||| ((f_Int_rotateLeft (f_Sta_register id g) ((f_Sta_register ib g) &&& (31 : Int32))) &&& (f_Log_mask ((shr iw (6 : Int32)) &&& (31 : Int32)) ((shr iw (1 : Int32)) &&& (31 : Int32))))), .int (f_Ins_has (1 : Int32) iw)]) (rest := []) (wr := [(aI, .inr (5, [.int iw, .int io, .int id, .int ia, .int ib, .int ii, .int is, .int iu])), (aL, .inr (6, [.ref aS]))]) (wj := [(aS, .inr (9, [.ref aG, .ref aX, .int nx, .int lt, .int sm, .int ex])), (aG, .inl (cG, 32, .inl t15.1)), (aX, .inl (cX, 64, .inl t15.2)), (aI, .inr (5, [.int iw, .int io, .int id, .int ia, .int ib, .int ii, .int is, .int iu])), (aL, .inr (6, [.ref aS]))]) ⟨hx, hb, hml, hown, hB⟩ (c_Sta_keepResult l D aS aG aX cG cX g sp nx lt sm ex ia ((0 : Int32) ||| ((f_Int_rotateLeft (f_Sta_register id g) ((f_Sta_register ib g) &&& (31 : Int32))) &&& (f_Log_mask ((shr iw (6 : Int32)) &&& (31 : Int32)) ((shr iw (1 : Int32)) &&& (31 : Int32))))) (f_Ins_has (1 : Int32) iw)) yl_Sta_keepResult mw_491 hK hN hP hD hS hA [0, 1] [0, 1, 2] [3, 4] [2, 3, 4, 0, 1] rfl rfl rfl rfl (by decide +kernel) 0 rfl rfl rfl rfl hl.1 rfl (Nat.le_of_ble_eq_true rfl) ⟨Nat.le_of_ble_eq_true rfl, Nat.le_of_ble_eq_true rfl⟩ d_Log_runsRotation_122 ⟨Nat.le_of_ble_eq_true rfl, Nat.le_of_ble_eq_true rfl⟩ (fun H locs hP hD hS => ?_)
      refine lv_iconst (v := (1 : Int32)) hx hb d_Log_runsRotation_125 (by decide) ?_
      have ef : f_Log_runsRotation g sp iw io id ia ib = ((1 : Int32), t15.1, t15.2) := by unfold f_Log_runsRotation; try dsimp only; rw [if_pos h4, if_neg h14]
      exact k_zret hx hb hr hlocks hK hP hD hS [0, 1, 2, 3, 4] rfl (by rw [ef] <;> rfl) (by rw [ef] <;> rfl) nb1 d_Log_runsRotation_126
    · refine lv_aload_n hx hb d_Log_runsRotation_80 rfl (lv_at hl 3 rfl) ?_
      refine va_get (D := D) (ci := 6) (v := .ref aS) (C := "MappedProcessor$Logic") (T := T_Log) (N := 1) hx hb hB iw_Log hown hK hP 4 rfl rfl 0 (by decide) (hB _ mw_169) (fun _ h9 => h9) rfl d_Log_runsRotation_81 ?_
      refine lv_aload_n hx hb d_Log_runsRotation_84 rfl (lv_at hl 4 rfl) ?_
      refine va_get (D := D) (ci := 5) (v := .int ia) (C := "MappedProcessor$Instruction") (T := T_Ins) (N := 8) hx hb hB iw_Ins hown hK hP 3 rfl rfl 3 (by decide) (hB _ mw_102) (fun _ h9 => h9) rfl d_Log_runsRotation_85 ?_
      refine k_cVi (As := [.int ia]) (rest := []) (wr := [(aI, .inr (5, [.int iw, .int io, .int id, .int ia, .int ib, .int ii, .int is, .int iu])), (aL, .inr (6, [.ref aS]))]) (wj := [(aS, .inr (9, [.ref aG, .ref aX, .int nx, .int lt, .int sm, .int ex])), (aG, .inl (cG, 32, .inl g)), (aX, .inl (cX, 64, .inl sp)), (aI, .inr (5, [.int iw, .int io, .int id, .int ia, .int ib, .int ii, .int is, .int iu])), (aL, .inr (6, [.ref aS]))]) ⟨hx, hb, hml, hown, hB⟩ (c_Sta_register l D aS aG aX cG cX g sp nx lt sm ex ia) yl_Sta_register mw_483 hK hN hP hD hS hA [0, 1] [0, 1, 2] [3, 4] [2, 3, 4, 0, 1] rfl rfl rfl rfl (by decide +kernel) 0 rfl rfl rfl rfl hl.1 rfl (Nat.le_of_ble_eq_true rfl) ⟨Nat.le_of_ble_eq_true rfl, Nat.le_of_ble_eq_true rfl⟩ d_Log_runsRotation_88 ⟨Nat.le_of_ble_eq_true rfl, Nat.le_of_ble_eq_true rfl⟩ (fun H locs hP hD hS => ?_)
      refine lv_iload hx hb d_Log_runsRotation_91 (lv_at hl 0 rfl) ?_
      refine lv_iconst (v := (-1 : Int32)) hx hb d_Log_runsRotation_93 (by decide) ?_
      refine lv_ixor hx hb d_Log_runsRotation_94 ?_
      refine lv_iand hx hb d_Log_runsRotation_95 ?_
      refine lv_goto (tgt := 100) hx hb d_Log_runsRotation_96 (by decide) ?_
      refine lv_istore (lv' := [(5, .int ((f_Sta_register ia g) &&& ((f_Log_mask ((shr iw (6 : Int32)) &&& (31 : Int32)) ((shr iw (1 : Int32)) &&& (31 : Int32))) ^^^ (-1 : Int32)))), (4, .int (f_Log_mask ((shr iw (6 : Int32)) &&& (31 : Int32)) ((shr iw (1 : Int32)) &&& (31 : Int32)))), (3, .int (f_Int_rotateLeft (f_Sta_register id g) ((f_Sta_register ib g) &&& (31 : Int32)))), (2, .int ((f_Sta_register ib g) &&& (31 : Int32))), (0, .ref aL), (1, .ref aI)]) hx hb d_Log_runsRotation_100 hl (by decide) rfl (fun ls hl => ?_)
      refine lv_aload_n hx hb d_Log_runsRotation_102 rfl (lv_at hl 4 rfl) ?_
      refine va_get (D := D) (ci := 6) (v := .ref aS) (C := "MappedProcessor$Logic") (T := T_Log) (N := 1) hx hb hB iw_Log hown hK hP 4 rfl rfl 0 (by decide) (hB _ mw_169) (fun _ h9 => h9) rfl d_Log_runsRotation_103 ?_
      refine lv_aload_n hx hb d_Log_runsRotation_106 rfl (lv_at hl 5 rfl) ?_
      refine va_get (D := D) (ci := 5) (v := .int ia) (C := "MappedProcessor$Instruction") (T := T_Ins) (N := 8) hx hb hB iw_Ins hown hK hP 3 rfl rfl 3 (by decide) (hB _ mw_102) (fun _ h9 => h9) rfl d_Log_runsRotation_107 ?_
      refine lv_iload hx hb d_Log_runsRotation_110 (lv_at hl 0 rfl) ?_
      refine lv_iload_n hx hb d_Log_runsRotation_112 rfl (lv_at hl 2 rfl) ?_
      refine lv_iload hx hb d_Log_runsRotation_113 (lv_at hl 1 rfl) ?_
      refine lv_iand hx hb d_Log_runsRotation_115 ?_
      refine lv_ior hx hb d_Log_runsRotation_116 ?_
      refine lv_aload_n hx hb d_Log_runsRotation_117 rfl (lv_at hl 5 rfl) ?_
      refine lv_iconst (v := (1 : Int32)) hx hb d_Log_runsRotation_118 (by decide) ?_
      refine k_cVi (As := [.int (1 : Int32)]) (rest := [.int (((f_Sta_register ia g) &&& ((f_Log_mask ((shr iw (6 : Int32)) &&& (31 : Int32)) ((shr iw (1 : Int32)) &&& (31 : Int32))) ^^^ (-1 : Int32))) ||| ((f_Int_rotateLeft (f_Sta_register id g) ((f_Sta_register ib g) &&& (31 : Int32))) &&& (f_Log_mask ((shr iw (6 : Int32)) &&& (31 : Int32)) ((shr iw (1 : Int32)) &&& (31 : Int32))))), .int ia, .ref aS]) (wr := [(aS, .inr (9, [.ref aG, .ref aX, .int nx, .int lt, .int sm, .int ex])), (aG, .inl (cG, 32, .inl g)), (aX, .inl (cX, 64, .inl sp)), (aL, .inr (6, [.ref aS]))]) (wj := [(aS, .inr (9, [.ref aG, .ref aX, .int nx, .int lt, .int sm, .int ex])), (aG, .inl (cG, 32, .inl g)), (aX, .inl (cX, 64, .inl sp)), (aI, .inr (5, [.int iw, .int io, .int id, .int ia, .int ib, .int ii, .int is, .int iu])), (aL, .inr (6, [.ref aS]))]) ⟨hx, hb, hml, hown, hB⟩ (c_Ins_has l D aI iw io id ia ib ii is iu (1 : Int32)) yl_Ins_has mw_490 hK hN hP hD hS hA [] [3] [0, 1, 2, 4] [0, 1, 2, 4, 3] rfl rfl rfl rfl (by decide +kernel) 0 rfl rfl rfl rfl hl.1 rfl (Nat.le_of_ble_eq_true rfl) ⟨Nat.le_of_ble_eq_true rfl, Nat.le_of_ble_eq_true rfl⟩ d_Log_runsRotation_119 ⟨Nat.le_of_ble_eq_true rfl, Nat.le_of_ble_eq_true rfl⟩ (fun H locs hP hD hS => ?_)
      let t16 := (f_Sta_keepResult ia (((f_Sta_register ia g) &&& ((f_Log_mask ((shr iw (6 : Int32)) &&& (31 : Int32)) ((shr iw (1 : Int32)) &&& (31 : Int32))) ^^^ (-1 : Int32))) ||| ((f_Int_rotateLeft (f_Sta_register id g) ((f_Sta_register ib g) &&& (31 : Int32))) &&& (f_Log_mask ((shr iw (6 : Int32)) &&& (31 : Int32)) ((shr iw (1 : Int32)) &&& (31 : Int32))))) (f_Ins_has (1 : Int32) iw) g sp)
      refine k_cVv (As := [.int ia, .int (((f_Sta_register ia g) &&& ((f_Log_mask ((shr iw (6 : Int32)) &&& (31 : Int32)) ((shr iw (1 : Int32)) &&& (31 : Int32))) ^^^ (-1 : Int32))) ||| ((f_Int_rotateLeft (f_Sta_register id g) ((f_Sta_register ib g) &&& (31 : Int32))) &&& (f_Log_mask ((shr iw (6 : Int32)) &&& (31 : Int32)) ((shr iw (1 : Int32)) &&& (31 : Int32))))), .int (f_Ins_has (1 : Int32) iw)]) (rest := []) (wr := [(aI, .inr (5, [.int iw, .int io, .int id, .int ia, .int ib, .int ii, .int is, .int iu])), (aL, .inr (6, [.ref aS]))]) (wj := [(aS, .inr (9, [.ref aG, .ref aX, .int nx, .int lt, .int sm, .int ex])), (aG, .inl (cG, 32, .inl t16.1)), (aX, .inl (cX, 64, .inl t16.2)), (aI, .inr (5, [.int iw, .int io, .int id, .int ia, .int ib, .int ii, .int is, .int iu])), (aL, .inr (6, [.ref aS]))]) ⟨hx, hb, hml, hown, hB⟩ (c_Sta_keepResult l D aS aG aX cG cX g sp nx lt sm ex ia (((f_Sta_register ia g) &&& ((f_Log_mask ((shr iw (6 : Int32)) &&& (31 : Int32)) ((shr iw (1 : Int32)) &&& (31 : Int32))) ^^^ (-1 : Int32))) ||| ((f_Int_rotateLeft (f_Sta_register id g) ((f_Sta_register ib g) &&& (31 : Int32))) &&& (f_Log_mask ((shr iw (6 : Int32)) &&& (31 : Int32)) ((shr iw (1 : Int32)) &&& (31 : Int32))))) (f_Ins_has (1 : Int32) iw)) yl_Sta_keepResult mw_491 hK hN hP hD hS hA [0, 1] [0, 1, 2] [3, 4] [2, 3, 4, 0, 1] rfl rfl rfl rfl (by decide +kernel) 0 rfl rfl rfl rfl hl.1 rfl (Nat.le_of_ble_eq_true rfl) ⟨Nat.le_of_ble_eq_true rfl, Nat.le_of_ble_eq_true rfl⟩ d_Log_runsRotation_122 ⟨Nat.le_of_ble_eq_true rfl, Nat.le_of_ble_eq_true rfl⟩ (fun H locs hP hD hS => ?_)
      refine lv_iconst (v := (1 : Int32)) hx hb d_Log_runsRotation_125 (by decide) ?_
      have ef : f_Log_runsRotation g sp iw io id ia ib = ((1 : Int32), t16.1, t16.2) := by unfold f_Log_runsRotation; try dsimp only; rw [if_pos h4, if_pos h14]
      exact k_zret hx hb hr hlocks hK hP hD hS [0, 1, 2, 3, 4] rfl (by rw [ef] <;> rfl) (by rw [ef] <;> rfl) nb1 d_Log_runsRotation_126
/-! MappedProcessor$Logic.runsImmediate(LMappedProcessor$Instruction;)Z -/
theorem d_Log_runsImmediate_0 : decode b_Log_runsImmediate 0 = .ok (.aload_n 0, 1) := by decide +kernel
theorem d_Log_runsImmediate_1 : decode b_Log_runsImmediate 1 = .ok (.getfield 7, 3) := by decide +kernel
theorem d_Log_runsImmediate_4 : decode b_Log_runsImmediate 4 = .ok (.aload_n 1, 1) := by decide +kernel
theorem d_Log_runsImmediate_5 : decode b_Log_runsImmediate 5 = .ok (.getfield 13, 3) := by decide +kernel
theorem d_Log_runsImmediate_8 : decode b_Log_runsImmediate 8 = .ok (.invokevirtual 19, 3) := by decide +kernel
theorem d_Log_runsImmediate_11 : decode b_Log_runsImmediate 11 = .ok (.istore_n 2, 1) := by decide +kernel
theorem d_Log_runsImmediate_12 : decode b_Log_runsImmediate 12 = .ok (.aload_n 1, 1) := by decide +kernel
theorem d_Log_runsImmediate_13 : decode b_Log_runsImmediate 13 = .ok (.getfield 25, 3) := by decide +kernel
theorem d_Log_runsImmediate_16 : decode b_Log_runsImmediate 16 = .ok (.iconst 1, 1) := by decide +kernel
theorem d_Log_runsImmediate_17 : decode b_Log_runsImmediate 17 = .ok (.iand, 1) := by decide +kernel
theorem d_Log_runsImmediate_18 : decode b_Log_runsImmediate 18 = .ok (.ifCond .ne 10, 3) := by decide +kernel
theorem d_Log_runsImmediate_21 : decode b_Log_runsImmediate 21 = .ok (.aload_n 1, 1) := by decide +kernel
theorem d_Log_runsImmediate_22 : decode b_Log_runsImmediate 22 = .ok (.getfield 28, 3) := by decide +kernel
theorem d_Log_runsImmediate_25 : decode b_Log_runsImmediate 25 = .ok (.goto 10, 3) := by decide +kernel
theorem d_Log_runsImmediate_28 : decode b_Log_runsImmediate 28 = .ok (.aload_n 1, 1) := by decide +kernel
theorem d_Log_runsImmediate_29 : decode b_Log_runsImmediate 29 = .ok (.getfield 28, 3) := by decide +kernel
theorem d_Log_runsImmediate_32 : decode b_Log_runsImmediate 32 = .ok (.bipush 16, 2) := by decide +kernel
theorem d_Log_runsImmediate_34 : decode b_Log_runsImmediate 34 = .ok (.ishl, 1) := by decide +kernel
theorem d_Log_runsImmediate_35 : decode b_Log_runsImmediate 35 = .ok (.istore_n 3, 1) := by decide +kernel
theorem d_Log_runsImmediate_36 : decode b_Log_runsImmediate 36 = .ok (.aload_n 1, 1) := by decide +kernel
theorem d_Log_runsImmediate_37 : decode b_Log_runsImmediate 37 = .ok (.getfield 25, 3) := by decide +kernel
theorem d_Log_runsImmediate_40 : decode b_Log_runsImmediate 40 = .ok (.tableswitch 91 24 29 #[40, 40, 57, 57, 74, 74], 40) := by decide +kernel
theorem d_Log_runsImmediate_80 : decode b_Log_runsImmediate 80 = .ok (.aload_n 0, 1) := by decide +kernel
theorem d_Log_runsImmediate_81 : decode b_Log_runsImmediate 81 = .ok (.getfield 7, 3) := by decide +kernel
theorem d_Log_runsImmediate_84 : decode b_Log_runsImmediate 84 = .ok (.aload_n 1, 1) := by decide +kernel
theorem d_Log_runsImmediate_85 : decode b_Log_runsImmediate 85 = .ok (.getfield 31, 3) := by decide +kernel
theorem d_Log_runsImmediate_88 : decode b_Log_runsImmediate 88 = .ok (.iload_n 2, 1) := by decide +kernel
theorem d_Log_runsImmediate_89 : decode b_Log_runsImmediate 89 = .ok (.iload_n 3, 1) := by decide +kernel
theorem d_Log_runsImmediate_90 : decode b_Log_runsImmediate 90 = .ok (.ior, 1) := by decide +kernel
theorem d_Log_runsImmediate_91 : decode b_Log_runsImmediate 91 = .ok (.iconst 0, 1) := by decide +kernel
theorem d_Log_runsImmediate_92 : decode b_Log_runsImmediate 92 = .ok (.invokevirtual 34, 3) := by decide +kernel
theorem d_Log_runsImmediate_95 : decode b_Log_runsImmediate 95 = .ok (.iconst 1, 1) := by decide +kernel
theorem d_Log_runsImmediate_96 : decode b_Log_runsImmediate 96 = .ok (.ireturn, 1) := by decide +kernel
theorem d_Log_runsImmediate_97 : decode b_Log_runsImmediate 97 = .ok (.aload_n 0, 1) := by decide +kernel
theorem d_Log_runsImmediate_98 : decode b_Log_runsImmediate 98 = .ok (.getfield 7, 3) := by decide +kernel
theorem d_Log_runsImmediate_101 : decode b_Log_runsImmediate 101 = .ok (.aload_n 1, 1) := by decide +kernel
theorem d_Log_runsImmediate_102 : decode b_Log_runsImmediate 102 = .ok (.getfield 31, 3) := by decide +kernel
theorem d_Log_runsImmediate_105 : decode b_Log_runsImmediate 105 = .ok (.iload_n 2, 1) := by decide +kernel
theorem d_Log_runsImmediate_106 : decode b_Log_runsImmediate 106 = .ok (.iload_n 3, 1) := by decide +kernel
theorem d_Log_runsImmediate_107 : decode b_Log_runsImmediate 107 = .ok (.ixor, 1) := by decide +kernel
theorem d_Log_runsImmediate_108 : decode b_Log_runsImmediate 108 = .ok (.iconst 0, 1) := by decide +kernel
theorem d_Log_runsImmediate_109 : decode b_Log_runsImmediate 109 = .ok (.invokevirtual 34, 3) := by decide +kernel
theorem d_Log_runsImmediate_112 : decode b_Log_runsImmediate 112 = .ok (.iconst 1, 1) := by decide +kernel
theorem d_Log_runsImmediate_113 : decode b_Log_runsImmediate 113 = .ok (.ireturn, 1) := by decide +kernel
theorem d_Log_runsImmediate_114 : decode b_Log_runsImmediate 114 = .ok (.aload_n 0, 1) := by decide +kernel
theorem d_Log_runsImmediate_115 : decode b_Log_runsImmediate 115 = .ok (.getfield 7, 3) := by decide +kernel
theorem d_Log_runsImmediate_118 : decode b_Log_runsImmediate 118 = .ok (.aload_n 1, 1) := by decide +kernel
theorem d_Log_runsImmediate_119 : decode b_Log_runsImmediate 119 = .ok (.getfield 31, 3) := by decide +kernel
theorem d_Log_runsImmediate_122 : decode b_Log_runsImmediate 122 = .ok (.iload_n 2, 1) := by decide +kernel
theorem d_Log_runsImmediate_123 : decode b_Log_runsImmediate 123 = .ok (.iload_n 3, 1) := by decide +kernel
theorem d_Log_runsImmediate_124 : decode b_Log_runsImmediate 124 = .ok (.iand, 1) := by decide +kernel
theorem d_Log_runsImmediate_125 : decode b_Log_runsImmediate 125 = .ok (.iconst 1, 1) := by decide +kernel
theorem d_Log_runsImmediate_126 : decode b_Log_runsImmediate 126 = .ok (.invokevirtual 34, 3) := by decide +kernel
theorem d_Log_runsImmediate_129 : decode b_Log_runsImmediate 129 = .ok (.iconst 1, 1) := by decide +kernel
theorem d_Log_runsImmediate_130 : decode b_Log_runsImmediate 130 = .ok (.ireturn, 1) := by decide +kernel
theorem d_Log_runsImmediate_131 : decode b_Log_runsImmediate 131 = .ok (.iconst 0, 1) := by decide +kernel
theorem d_Log_runsImmediate_132 : decode b_Log_runsImmediate 132 = .ok (.ireturn, 1) := by decide +kernel
def f_Log_runsImmediate (g : Nat → Int32) (sp : Nat → Int32) (io : Int32) (id : Int32) (ia : Int32) (iu : Int32) : Int32 × (Nat → Int32) × (Nat → Int32) :=
  if io = (24 : Int32) ∨ io = (25 : Int32) then
    let t7 := (f_Sta_keepResult ia ((f_Sta_register id g) ||| (if (io &&& (1 : Int32)) = (0 : Int32) then iu else (shl iu (16 : Int32)))) (0 : Int32) g sp)
    ((1 : Int32), t7.1, t7.2)
  else
    if io = (26 : Int32) ∨ io = (27 : Int32) then
      let t9 := (f_Sta_keepResult ia ((f_Sta_register id g) ^^^ (if (io &&& (1 : Int32)) = (0 : Int32) then iu else (shl iu (16 : Int32)))) (0 : Int32) g sp)
      ((1 : Int32), t9.1, t9.2)
    else
      if io = (28 : Int32) ∨ io = (29 : Int32) then
        let t11 := (f_Sta_keepResult ia ((f_Sta_register id g) &&& (if (io &&& (1 : Int32)) = (0 : Int32) then iu else (shl iu (16 : Int32)))) (1 : Int32) g sp)
        ((1 : Int32), t11.1, t11.2)
      else
        ((0 : Int32), g, sp)
set_option maxHeartbeats 4000000 in
set_option maxRecDepth 100000 in
theorem ib_Log_runsImmediate (g : Nat → Int32) (sp : Nat → Int32) (io : Int32) (id : Int32) (ia : Int32) (iu : Int32) : isB (f_Log_runsImmediate g sp io id ia iu).1 := by
  unfold f_Log_runsImmediate
  try dsimp only
  repeat' (first | refine ib_ite ?_ ?_ | refine ib_ite0 ?_ ?_ | with_reducible exact ib0 | with_reducible exact ib1 | (dsimp only; first | exact ib0 | exact ib1))
theorem nb_Log_runsImmediate (g : Nat → Int32) (sp : Nat → Int32) (io : Int32) (id : Int32) (ia : Int32) (iu : Int32) : narrow .boolean (.int (f_Log_runsImmediate g sp io id ia iu).1) = .int (f_Log_runsImmediate g sp io id ia iu).1 := nb_of (ib_Log_runsImmediate g sp io id ia iu)
set_option maxHeartbeats 4000000 in
set_option maxRecDepth 100000 in
theorem c_Log_runsImmediate (l : Launch) (D : va_G) (aS aG aX aI aL : Nat) (cG cX : ClassId) (g : Nat → Int32) (sp : Nat → Int32) (nx : Int32) (lt : Int32) (sm : Int32) (ex : Int32) (iw : Int32) (io : Int32) (id : Int32) (ia : Int32) (ib : Int32) (ii : Int32) (is : Int32) (iu : Int32) (_q0 : Nat) : kMi l y_Log_runsImmediate b_Log_runsImmediate 4 (some .boolean) 2 51 D kCl [(cG, .int), (cX, .int)] [.ref aL, .ref aI] [(aS, .inr (9, [.ref aG, .ref aX, .int nx, .int lt, .int sm, .int ex])), (aG, .inl (cG, 32, .inl g)), (aX, .inl (cX, 64, .inl sp)), (aI, .inr (5, [.int iw, .int io, .int id, .int ia, .int ib, .int ii, .int is, .int iu])), (aL, .inr (6, [.ref aS]))] (f_Log_runsImmediate g sp io id ia iu).1 [(aS, .inr (9, [.ref aG, .ref aX, .int nx, .int lt, .int sm, .int ex])), (aG, .inl (cG, 32, .inl (f_Log_runsImmediate g sp io id ia iu).2.1)), (aX, .inl (cX, 64, .inl (f_Log_runsImmediate g sp io id ia iu).2.2)), (aI, .inr (5, [.int iw, .int io, .int id, .int ia, .int ib, .int ii, .int is, .int iu])), (aL, .inr (6, [.ref aS]))] := by
  refine k_entry (Qc := fun A => kQi D kCl [(cG, .int), (cX, .int)] (f_Log_runsImmediate g sp io id ia iu).1 [(aS, .inr (9, [.ref aG, .ref aX, .int nx, .int lt, .int sm, .int ex])), (aG, .inl (cG, 32, .inl (f_Log_runsImmediate g sp io id ia iu).2.1)), (aX, .inl (cX, 64, .inl (f_Log_runsImmediate g sp io id ia iu).2.2)), (aI, .inr (5, [.int iw, .int io, .int id, .int ia, .int ib, .int ii, .int is, .int iu])), (aL, .inr (6, [.ref aS]))] A) (lv := [(0, .ref aL), (1, .ref aI)]) (by decide) (Nat.le_of_ble_eq_true rfl) rfl ?_
  intro p e s m below meth c A ls hx hb hr hml hB hown hlocks hin hA hK hN hP hD hS hl
  have hown : s.vm.findClass "MappedProcessor$Logic" = some m.cls := hown
  refine lv_aload_n hx hb d_Log_runsImmediate_0 rfl (lv_at hl 0 rfl) ?_
  refine va_get (D := D) (ci := 6) (v := .ref aS) (C := "MappedProcessor$Logic") (T := T_Log) (N := 1) hx hb hB iw_Log hown hK hP 4 rfl rfl 0 (by decide) (hB _ mw_169) (fun _ h9 => h9) rfl d_Log_runsImmediate_1 ?_
  refine lv_aload_n hx hb d_Log_runsImmediate_4 rfl (lv_at hl 1 rfl) ?_
  refine va_get (D := D) (ci := 5) (v := .int id) (C := "MappedProcessor$Instruction") (T := T_Ins) (N := 8) hx hb hB iw_Ins hown hK hP 3 rfl rfl 2 (by decide) (hB _ mw_90) (fun _ h9 => h9) rfl d_Log_runsImmediate_5 ?_
  refine k_cVi (As := [.int id]) (rest := []) (wr := [(aI, .inr (5, [.int iw, .int io, .int id, .int ia, .int ib, .int ii, .int is, .int iu])), (aL, .inr (6, [.ref aS]))]) (wj := [(aS, .inr (9, [.ref aG, .ref aX, .int nx, .int lt, .int sm, .int ex])), (aG, .inl (cG, 32, .inl g)), (aX, .inl (cX, 64, .inl sp)), (aI, .inr (5, [.int iw, .int io, .int id, .int ia, .int ib, .int ii, .int is, .int iu])), (aL, .inr (6, [.ref aS]))]) ⟨hx, hb, hml, hown, hB⟩ (c_Sta_register l D aS aG aX cG cX g sp nx lt sm ex id) yl_Sta_register mw_483 hK hN hP hD hS hA [0, 1] [0, 1, 2] [3, 4] [2, 3, 4, 0, 1] rfl rfl rfl rfl (by decide +kernel) 0 rfl rfl rfl rfl hl.1 rfl (Nat.le_of_ble_eq_true rfl) ⟨Nat.le_of_ble_eq_true rfl, Nat.le_of_ble_eq_true rfl⟩ d_Log_runsImmediate_8 ⟨Nat.le_of_ble_eq_true rfl, Nat.le_of_ble_eq_true rfl⟩ (fun H locs hP hD hS => ?_)
  refine lv_istore_n (lv' := [(2, .int (f_Sta_register id g)), (0, .ref aL), (1, .ref aI)]) hx hb d_Log_runsImmediate_11 rfl hl (by decide) rfl (fun ls hl => ?_)
  refine lv_aload_n hx hb d_Log_runsImmediate_12 rfl (lv_at hl 2 rfl) ?_
  refine va_get (D := D) (ci := 5) (v := .int io) (C := "MappedProcessor$Instruction") (T := T_Ins) (N := 8) hx hb hB iw_Ins hown hK hP 3 rfl rfl 1 (by decide) (hB _ mw_88) (fun _ h9 => h9) rfl d_Log_runsImmediate_13 ?_
  refine lv_iconst (v := (1 : Int32)) hx hb d_Log_runsImmediate_16 (by decide) ?_
  refine lv_iand hx hb d_Log_runsImmediate_17 ?_
  refine k_join2 (c0 := (io &&& (1 : Int32)) = (0 : Int32)) (x1 := iu) (x2 := (shl iu (16 : Int32))) (rest := []) 35 ?_ (fun k2 k3 => ?_)
  rotate_left
  · refine lv_if_ne (tgt := 28) hx hb d_Log_runsImmediate_18 (by decide) (fun (h1 : ¬ (io &&& (1 : Int32)) = (0 : Int32)) => ?_) (fun (h1 : (io &&& (1 : Int32)) = (0 : Int32)) => ?_)
    · refine lv_aload_n hx hb d_Log_runsImmediate_28 rfl (lv_at hl 2 rfl) ?_
      refine va_get (D := D) (ci := 5) (v := .int iu) (C := "MappedProcessor$Instruction") (T := T_Ins) (N := 8) hx hb hB iw_Ins hown hK hP 3 rfl rfl 7 (by decide) (hB _ mw_123) (fun _ h9 => h9) rfl d_Log_runsImmediate_29 ?_
      refine lv_bipush (v := (16 : Int32)) hx hb d_Log_runsImmediate_32 (by decide) ?_
      refine lv_ishl hx hb d_Log_runsImmediate_34 ?_
      exact k3 h1
    · refine lv_aload_n hx hb d_Log_runsImmediate_21 rfl (lv_at hl 2 rfl) ?_
      refine va_get (D := D) (ci := 5) (v := .int iu) (C := "MappedProcessor$Instruction") (T := T_Ins) (N := 8) hx hb hB iw_Ins hown hK hP 3 rfl rfl 7 (by decide) (hB _ mw_123) (fun _ h9 => h9) rfl d_Log_runsImmediate_22 ?_
      refine lv_goto (tgt := 35) hx hb d_Log_runsImmediate_25 (by decide) ?_
      exact k2 h1
  refine lv_istore_n (lv' := [(3, .int (if (io &&& (1 : Int32)) = (0 : Int32) then iu else (shl iu (16 : Int32)))), (2, .int (f_Sta_register id g)), (0, .ref aL), (1, .ref aI)]) hx hb d_Log_runsImmediate_35 rfl hl (by decide) rfl (fun ls hl => ?_)
  refine lv_aload_n hx hb d_Log_runsImmediate_36 rfl (lv_at hl 3 rfl) ?_
  refine va_get (D := D) (ci := 5) (v := .int io) (C := "MappedProcessor$Instruction") (T := T_Ins) (N := 8) hx hb hB iw_Ins hown hK hP 3 rfl rfl 1 (by decide) (hB _ mw_88) (fun _ h9 => h9) rfl d_Log_runsImmediate_37 ?_
  by_cases h6 : io = (24 : Int32) ∨ io = (25 : Int32)
  · refine k_table (off := 40) (tgt := 80) hx hb d_Log_runsImmediate_40 (by rcases h6 with hq9 | hq9 <;> rw [hq9] <;> rfl) (by decide) ?_
    refine lv_aload_n hx hb d_Log_runsImmediate_80 rfl (lv_at hl 2 rfl) ?_
    refine va_get (D := D) (ci := 6) (v := .ref aS) (C := "MappedProcessor$Logic") (T := T_Log) (N := 1) hx hb hB iw_Log hown hK hP 4 rfl rfl 0 (by decide) (hB _ mw_169) (fun _ h9 => h9) rfl d_Log_runsImmediate_81 ?_
    refine lv_aload_n hx hb d_Log_runsImmediate_84 rfl (lv_at hl 3 rfl) ?_
    refine va_get (D := D) (ci := 5) (v := .int ia) (C := "MappedProcessor$Instruction") (T := T_Ins) (N := 8) hx hb hB iw_Ins hown hK hP 3 rfl rfl 3 (by decide) (hB _ mw_102) (fun _ h9 => h9) rfl d_Log_runsImmediate_85 ?_
    refine lv_iload_n hx hb d_Log_runsImmediate_88 rfl (lv_at hl 1 rfl) ?_
    refine lv_iload_n hx hb d_Log_runsImmediate_89 rfl (lv_at hl 0 rfl) ?_
    refine lv_ior hx hb d_Log_runsImmediate_90 ?_
    refine lv_iconst (v := (0 : Int32)) hx hb d_Log_runsImmediate_91 (by decide) ?_
    let t7 := (f_Sta_keepResult ia ((f_Sta_register id g) ||| (if (io &&& (1 : Int32)) = (0 : Int32) then iu else (shl iu (16 : Int32)))) (0 : Int32) g sp)
    refine k_cVv (As := [.int ia, .int ((f_Sta_register id g) ||| (if (io &&& (1 : Int32)) = (0 : Int32) then iu else (shl iu (16 : Int32)))), .int (0 : Int32)]) (rest := []) (wr := [(aI, .inr (5, [.int iw, .int io, .int id, .int ia, .int ib, .int ii, .int is, .int iu])), (aL, .inr (6, [.ref aS]))]) (wj := [(aS, .inr (9, [.ref aG, .ref aX, .int nx, .int lt, .int sm, .int ex])), (aG, .inl (cG, 32, .inl t7.1)), (aX, .inl (cX, 64, .inl t7.2)), (aI, .inr (5, [.int iw, .int io, .int id, .int ia, .int ib, .int ii, .int is, .int iu])), (aL, .inr (6, [.ref aS]))]) ⟨hx, hb, hml, hown, hB⟩ (c_Sta_keepResult l D aS aG aX cG cX g sp nx lt sm ex ia ((f_Sta_register id g) ||| (if (io &&& (1 : Int32)) = (0 : Int32) then iu else (shl iu (16 : Int32)))) (0 : Int32)) yl_Sta_keepResult mw_491 hK hN hP hD hS hA [0, 1] [0, 1, 2] [3, 4] [2, 3, 4, 0, 1] rfl rfl rfl rfl (by decide +kernel) 0 rfl rfl rfl rfl hl.1 rfl (Nat.le_of_ble_eq_true rfl) ⟨Nat.le_of_ble_eq_true rfl, Nat.le_of_ble_eq_true rfl⟩ d_Log_runsImmediate_92 ⟨Nat.le_of_ble_eq_true rfl, Nat.le_of_ble_eq_true rfl⟩ (fun H locs hP hD hS => ?_)
    refine lv_iconst (v := (1 : Int32)) hx hb d_Log_runsImmediate_95 (by decide) ?_
    have ef : f_Log_runsImmediate g sp io id ia iu = ((1 : Int32), t7.1, t7.2) := by unfold f_Log_runsImmediate; try dsimp only; rw [if_pos h6]
    exact k_zret hx hb hr hlocks hK hP hD hS [0, 1, 2, 3, 4] rfl (by rw [ef] <;> rfl) (by rw [ef] <;> rfl) nb1 d_Log_runsImmediate_96
  · by_cases h8 : io = (26 : Int32) ∨ io = (27 : Int32)
    · refine k_table (off := 57) (tgt := 97) hx hb d_Log_runsImmediate_40 (by rcases h8 with hq9 | hq9 <;> rw [hq9] <;> rfl) (by decide) ?_
      refine lv_aload_n hx hb d_Log_runsImmediate_97 rfl (lv_at hl 2 rfl) ?_
      refine va_get (D := D) (ci := 6) (v := .ref aS) (C := "MappedProcessor$Logic") (T := T_Log) (N := 1) hx hb hB iw_Log hown hK hP 4 rfl rfl 0 (by decide) (hB _ mw_169) (fun _ h9 => h9) rfl d_Log_runsImmediate_98 ?_
      refine lv_aload_n hx hb d_Log_runsImmediate_101 rfl (lv_at hl 3 rfl) ?_
      refine va_get (D := D) (ci := 5) (v := .int ia) (C := "MappedProcessor$Instruction") (T := T_Ins) (N := 8) hx hb hB iw_Ins hown hK hP 3 rfl rfl 3 (by decide) (hB _ mw_102) (fun _ h9 => h9) rfl d_Log_runsImmediate_102 ?_
      refine lv_iload_n hx hb d_Log_runsImmediate_105 rfl (lv_at hl 1 rfl) ?_
      refine lv_iload_n hx hb d_Log_runsImmediate_106 rfl (lv_at hl 0 rfl) ?_
      refine lv_ixor hx hb d_Log_runsImmediate_107 ?_
      refine lv_iconst (v := (0 : Int32)) hx hb d_Log_runsImmediate_108 (by decide) ?_
      let t9 := (f_Sta_keepResult ia ((f_Sta_register id g) ^^^ (if (io &&& (1 : Int32)) = (0 : Int32) then iu else (shl iu (16 : Int32)))) (0 : Int32) g sp)
      refine k_cVv (As := [.int ia, .int ((f_Sta_register id g) ^^^ (if (io &&& (1 : Int32)) = (0 : Int32) then iu else (shl iu (16 : Int32)))), .int (0 : Int32)]) (rest := []) (wr := [(aI, .inr (5, [.int iw, .int io, .int id, .int ia, .int ib, .int ii, .int is, .int iu])), (aL, .inr (6, [.ref aS]))]) (wj := [(aS, .inr (9, [.ref aG, .ref aX, .int nx, .int lt, .int sm, .int ex])), (aG, .inl (cG, 32, .inl t9.1)), (aX, .inl (cX, 64, .inl t9.2)), (aI, .inr (5, [.int iw, .int io, .int id, .int ia, .int ib, .int ii, .int is, .int iu])), (aL, .inr (6, [.ref aS]))]) ⟨hx, hb, hml, hown, hB⟩ (c_Sta_keepResult l D aS aG aX cG cX g sp nx lt sm ex ia ((f_Sta_register id g) ^^^ (if (io &&& (1 : Int32)) = (0 : Int32) then iu else (shl iu (16 : Int32)))) (0 : Int32)) yl_Sta_keepResult mw_491 hK hN hP hD hS hA [0, 1] [0, 1, 2] [3, 4] [2, 3, 4, 0, 1] rfl rfl rfl rfl (by decide +kernel) 0 rfl rfl rfl rfl hl.1 rfl (Nat.le_of_ble_eq_true rfl) ⟨Nat.le_of_ble_eq_true rfl, Nat.le_of_ble_eq_true rfl⟩ d_Log_runsImmediate_109 ⟨Nat.le_of_ble_eq_true rfl, Nat.le_of_ble_eq_true rfl⟩ (fun H locs hP hD hS => ?_)
      refine lv_iconst (v := (1 : Int32)) hx hb d_Log_runsImmediate_112 (by decide) ?_
      have ef : f_Log_runsImmediate g sp io id ia iu = ((1 : Int32), t9.1, t9.2) := by unfold f_Log_runsImmediate; try dsimp only; rw [if_neg h6, if_pos h8]
      exact k_zret hx hb hr hlocks hK hP hD hS [0, 1, 2, 3, 4] rfl (by rw [ef] <;> rfl) (by rw [ef] <;> rfl) nb1 d_Log_runsImmediate_113
    · by_cases h10 : io = (28 : Int32) ∨ io = (29 : Int32)
      · refine k_table (off := 74) (tgt := 114) hx hb d_Log_runsImmediate_40 (by rcases h10 with hq9 | hq9 <;> rw [hq9] <;> rfl) (by decide) ?_
        refine lv_aload_n hx hb d_Log_runsImmediate_114 rfl (lv_at hl 2 rfl) ?_
        refine va_get (D := D) (ci := 6) (v := .ref aS) (C := "MappedProcessor$Logic") (T := T_Log) (N := 1) hx hb hB iw_Log hown hK hP 4 rfl rfl 0 (by decide) (hB _ mw_169) (fun _ h9 => h9) rfl d_Log_runsImmediate_115 ?_
        refine lv_aload_n hx hb d_Log_runsImmediate_118 rfl (lv_at hl 3 rfl) ?_
        refine va_get (D := D) (ci := 5) (v := .int ia) (C := "MappedProcessor$Instruction") (T := T_Ins) (N := 8) hx hb hB iw_Ins hown hK hP 3 rfl rfl 3 (by decide) (hB _ mw_102) (fun _ h9 => h9) rfl d_Log_runsImmediate_119 ?_
        refine lv_iload_n hx hb d_Log_runsImmediate_122 rfl (lv_at hl 1 rfl) ?_
        refine lv_iload_n hx hb d_Log_runsImmediate_123 rfl (lv_at hl 0 rfl) ?_
        refine lv_iand hx hb d_Log_runsImmediate_124 ?_
        refine lv_iconst (v := (1 : Int32)) hx hb d_Log_runsImmediate_125 (by decide) ?_
        let t11 := (f_Sta_keepResult ia ((f_Sta_register id g) &&& (if (io &&& (1 : Int32)) = (0 : Int32) then iu else (shl iu (16 : Int32)))) (1 : Int32) g sp)
        refine k_cVv (As := [.int ia, .int ((f_Sta_register id g) &&& (if (io &&& (1 : Int32)) = (0 : Int32) then iu else (shl iu (16 : Int32)))), .int (1 : Int32)]) (rest := []) (wr := [(aI, .inr (5, [.int iw, .int io, .int id, .int ia, .int ib, .int ii, .int is, .int iu])), (aL, .inr (6, [.ref aS]))]) (wj := [(aS, .inr (9, [.ref aG, .ref aX, .int nx, .int lt, .int sm, .int ex])), (aG, .inl (cG, 32, .inl t11.1)), (aX, .inl (cX, 64, .inl t11.2)), (aI, .inr (5, [.int iw, .int io, .int id, .int ia, .int ib, .int ii, .int is, .int iu])), (aL, .inr (6, [.ref aS]))]) ⟨hx, hb, hml, hown, hB⟩ (c_Sta_keepResult l D aS aG aX cG cX g sp nx lt sm ex ia ((f_Sta_register id g) &&& (if (io &&& (1 : Int32)) = (0 : Int32) then iu else (shl iu (16 : Int32)))) (1 : Int32)) yl_Sta_keepResult mw_491 hK hN hP hD hS hA [0, 1] [0, 1, 2] [3, 4] [2, 3, 4, 0, 1] rfl rfl rfl rfl (by decide +kernel) 0 rfl rfl rfl rfl hl.1 rfl (Nat.le_of_ble_eq_true rfl) ⟨Nat.le_of_ble_eq_true rfl, Nat.le_of_ble_eq_true rfl⟩ d_Log_runsImmediate_126 ⟨Nat.le_of_ble_eq_true rfl, Nat.le_of_ble_eq_true rfl⟩ (fun H locs hP hD hS => ?_)
        refine lv_iconst (v := (1 : Int32)) hx hb d_Log_runsImmediate_129 (by decide) ?_
        have ef : f_Log_runsImmediate g sp io id ia iu = ((1 : Int32), t11.1, t11.2) := by unfold f_Log_runsImmediate; try dsimp only; rw [if_neg h6, if_neg h8, if_pos h10]
        exact k_zret hx hb hr hlocks hK hP hD hS [0, 1, 2, 3, 4] rfl (by rw [ef] <;> rfl) (by rw [ef] <;> rfl) nb1 d_Log_runsImmediate_130
      · refine k_table (off := 91) (tgt := 131) hx hb d_Log_runsImmediate_40 (by
            have ee0 := lv_neT (a := 24) (fun hq9 => h6 (Or.inl hq9)) (by decide); have ee1 := lv_neT (a := 25) (fun hq9 => h6 (Or.inr (hq9))) (by decide); have ee2 := lv_neT (a := 26) (fun hq9 => h8 (Or.inl hq9)) (by decide); have ee3 := lv_neT (a := 27) (fun hq9 => h8 (Or.inr (hq9))) (by decide); have ee4 := lv_neT (a := 28) (fun hq9 => h10 (Or.inl hq9)) (by decide); have ee5 := lv_neT (a := 29) (fun hq9 => h10 (Or.inr (hq9))) (by decide)
            by_cases hq9 : io.toInt < 24 ∨ 29 < io.toInt
            · rw [if_pos hq9]
            · exact absurd (by omega) hq9) (by decide) ?_
        refine lv_iconst (v := (0 : Int32)) hx hb d_Log_runsImmediate_131 (by decide) ?_
        have ef : f_Log_runsImmediate g sp io id ia iu = ((0 : Int32), g, sp) := by unfold f_Log_runsImmediate; try dsimp only; rw [if_neg h6, if_neg h8, if_neg h10]
        exact k_zret hx hb hr hlocks hK hP hD hS [0, 1, 2, 3, 4] rfl (by rw [ef] <;> rfl) (by rw [ef] <;> rfl) nb0 d_Log_runsImmediate_132
/-! MappedProcessor$Comparisons.runsExtended(LMappedProcessor$Instruction;)Z -/
theorem d_Cmp_runsExtended_0 : decode b_Cmp_runsExtended 0 = .ok (.aload_n 0, 1) := by decide +kernel
theorem d_Cmp_runsExtended_1 : decode b_Cmp_runsExtended 1 = .ok (.getfield 9, 3) := by decide +kernel
theorem d_Cmp_runsExtended_4 : decode b_Cmp_runsExtended 4 = .ok (.aload_n 1, 1) := by decide +kernel
theorem d_Cmp_runsExtended_5 : decode b_Cmp_runsExtended 5 = .ok (.getfield 15, 3) := by decide +kernel
theorem d_Cmp_runsExtended_8 : decode b_Cmp_runsExtended 8 = .ok (.invokevirtual 21, 3) := by decide +kernel
theorem d_Cmp_runsExtended_11 : decode b_Cmp_runsExtended 11 = .ok (.istore_n 2, 1) := by decide +kernel
theorem d_Cmp_runsExtended_12 : decode b_Cmp_runsExtended 12 = .ok (.aload_n 0, 1) := by decide +kernel
theorem d_Cmp_runsExtended_13 : decode b_Cmp_runsExtended 13 = .ok (.getfield 9, 3) := by decide +kernel
theorem d_Cmp_runsExtended_16 : decode b_Cmp_runsExtended 16 = .ok (.aload_n 1, 1) := by decide +kernel
theorem d_Cmp_runsExtended_17 : decode b_Cmp_runsExtended 17 = .ok (.getfield 56, 3) := by decide +kernel
theorem d_Cmp_runsExtended_20 : decode b_Cmp_runsExtended 20 = .ok (.invokevirtual 21, 3) := by decide +kernel
theorem d_Cmp_runsExtended_23 : decode b_Cmp_runsExtended 23 = .ok (.istore_n 3, 1) := by decide +kernel
theorem d_Cmp_runsExtended_24 : decode b_Cmp_runsExtended 24 = .ok (.aload_n 1, 1) := by decide +kernel
theorem d_Cmp_runsExtended_25 : decode b_Cmp_runsExtended 25 = .ok (.getfield 59, 3) := by decide +kernel
theorem d_Cmp_runsExtended_28 : decode b_Cmp_runsExtended 28 = .ok (.lookupswitch 88 #[(0, 36), (4, 56), (32, 68)], 36) := by decide +kernel
theorem d_Cmp_runsExtended_64 : decode b_Cmp_runsExtended 64 = .ok (.aload_n 0, 1) := by decide +kernel
theorem d_Cmp_runsExtended_65 : decode b_Cmp_runsExtended 65 = .ok (.getfield 9, 3) := by decide +kernel
theorem d_Cmp_runsExtended_68 : decode b_Cmp_runsExtended 68 = .ok (.aload_n 1, 1) := by decide +kernel
theorem d_Cmp_runsExtended_69 : decode b_Cmp_runsExtended 69 = .ok (.getfield 30, 3) := by decide +kernel
theorem d_Cmp_runsExtended_72 : decode b_Cmp_runsExtended 72 = .ok (.iconst 2, 1) := by decide +kernel
theorem d_Cmp_runsExtended_73 : decode b_Cmp_runsExtended 73 = .ok (.ishr, 1) := by decide +kernel
theorem d_Cmp_runsExtended_74 : decode b_Cmp_runsExtended 74 = .ok (.iload_n 2, 1) := by decide +kernel
theorem d_Cmp_runsExtended_75 : decode b_Cmp_runsExtended 75 = .ok (.iload_n 3, 1) := by decide +kernel
theorem d_Cmp_runsExtended_76 : decode b_Cmp_runsExtended 76 = .ok (.invokestatic 53, 3) := by decide +kernel
theorem d_Cmp_runsExtended_79 : decode b_Cmp_runsExtended 79 = .ok (.invokevirtual 49, 3) := by decide +kernel
theorem d_Cmp_runsExtended_82 : decode b_Cmp_runsExtended 82 = .ok (.iconst 1, 1) := by decide +kernel
theorem d_Cmp_runsExtended_83 : decode b_Cmp_runsExtended 83 = .ok (.ireturn, 1) := by decide +kernel
theorem d_Cmp_runsExtended_84 : decode b_Cmp_runsExtended 84 = .ok (.aload_n 0, 1) := by decide +kernel
theorem d_Cmp_runsExtended_85 : decode b_Cmp_runsExtended 85 = .ok (.aload_n 1, 1) := by decide +kernel
theorem d_Cmp_runsExtended_86 : decode b_Cmp_runsExtended 86 = .ok (.getfield 30, 3) := by decide +kernel
theorem d_Cmp_runsExtended_89 : decode b_Cmp_runsExtended 89 = .ok (.iload_n 2, 1) := by decide +kernel
theorem d_Cmp_runsExtended_90 : decode b_Cmp_runsExtended 90 = .ok (.iload_n 3, 1) := by decide +kernel
theorem d_Cmp_runsExtended_91 : decode b_Cmp_runsExtended 91 = .ok (.invokevirtual 36, 3) := by decide +kernel
theorem d_Cmp_runsExtended_94 : decode b_Cmp_runsExtended 94 = .ok (.iconst 1, 1) := by decide +kernel
theorem d_Cmp_runsExtended_95 : decode b_Cmp_runsExtended 95 = .ok (.ireturn, 1) := by decide +kernel
theorem d_Cmp_runsExtended_96 : decode b_Cmp_runsExtended 96 = .ok (.aload_n 0, 1) := by decide +kernel
theorem d_Cmp_runsExtended_97 : decode b_Cmp_runsExtended 97 = .ok (.getfield 9, 3) := by decide +kernel
theorem d_Cmp_runsExtended_100 : decode b_Cmp_runsExtended 100 = .ok (.aload_n 1, 1) := by decide +kernel
theorem d_Cmp_runsExtended_101 : decode b_Cmp_runsExtended 101 = .ok (.getfield 30, 3) := by decide +kernel
theorem d_Cmp_runsExtended_104 : decode b_Cmp_runsExtended 104 = .ok (.iconst 2, 1) := by decide +kernel
theorem d_Cmp_runsExtended_105 : decode b_Cmp_runsExtended 105 = .ok (.ishr, 1) := by decide +kernel
theorem d_Cmp_runsExtended_106 : decode b_Cmp_runsExtended 106 = .ok (.iload_n 2, 1) := by decide +kernel
theorem d_Cmp_runsExtended_107 : decode b_Cmp_runsExtended 107 = .ok (.iload_n 3, 1) := by decide +kernel
theorem d_Cmp_runsExtended_108 : decode b_Cmp_runsExtended 108 = .ok (.invokestatic 43, 3) := by decide +kernel
theorem d_Cmp_runsExtended_111 : decode b_Cmp_runsExtended 111 = .ok (.invokevirtual 49, 3) := by decide +kernel
theorem d_Cmp_runsExtended_114 : decode b_Cmp_runsExtended 114 = .ok (.iconst 1, 1) := by decide +kernel
theorem d_Cmp_runsExtended_115 : decode b_Cmp_runsExtended 115 = .ok (.ireturn, 1) := by decide +kernel
theorem d_Cmp_runsExtended_116 : decode b_Cmp_runsExtended 116 = .ok (.iconst 0, 1) := by decide +kernel
theorem d_Cmp_runsExtended_117 : decode b_Cmp_runsExtended 117 = .ok (.ireturn, 1) := by decide +kernel
def f_Cmp_runsExtended (g : Nat → Int32) (sp : Nat → Int32) (nx : Int32) (lt : Int32) (ex : Int32) (id : Int32) (ia : Int32) (ib : Int32) (ii : Int32) : Int32 × (Nat → Int32) × Int32 × Int32 × Int32 :=
  if ii = (0 : Int32) then
    ((1 : Int32), (f_Sta_keepOrder (shr id (2 : Int32)) (f_Int_compare (f_Sta_register ia g) (f_Sta_register ib g)) sp), nx, lt, ex)
  else
    if ii = (4 : Int32) then
      let t3 := (f_Cmp_trap id (f_Sta_register ia g) (f_Sta_register ib g) sp nx lt ex)
      ((1 : Int32), t3.1, t3.2.1, t3.2.2.1, t3.2.2.2)
    else
      if ii = (32 : Int32) then
        ((1 : Int32), (f_Sta_keepOrder (shr id (2 : Int32)) (f_Int_compareUnsigned (f_Sta_register ia g) (f_Sta_register ib g)) sp), nx, lt, ex)
      else
        ((0 : Int32), sp, nx, lt, ex)
set_option maxHeartbeats 4000000 in
set_option maxRecDepth 100000 in
theorem ib_Cmp_runsExtended (g : Nat → Int32) (sp : Nat → Int32) (nx : Int32) (lt : Int32) (ex : Int32) (id : Int32) (ia : Int32) (ib : Int32) (ii : Int32) : isB (f_Cmp_runsExtended g sp nx lt ex id ia ib ii).1 := by
  unfold f_Cmp_runsExtended
  try dsimp only
  repeat' (first | refine ib_ite ?_ ?_ | refine ib_ite0 ?_ ?_ | with_reducible exact ib0 | with_reducible exact ib1 | (dsimp only; first | exact ib0 | exact ib1))
theorem nb_Cmp_runsExtended (g : Nat → Int32) (sp : Nat → Int32) (nx : Int32) (lt : Int32) (ex : Int32) (id : Int32) (ia : Int32) (ib : Int32) (ii : Int32) : narrow .boolean (.int (f_Cmp_runsExtended g sp nx lt ex id ia ib ii).1) = .int (f_Cmp_runsExtended g sp nx lt ex id ia ib ii).1 := nb_of (ib_Cmp_runsExtended g sp nx lt ex id ia ib ii)
set_option maxHeartbeats 4000000 in
set_option maxRecDepth 100000 in
theorem c_Cmp_runsExtended (l : Launch) (D : va_G) (aS aG aX aI aC : Nat) (cG cX : ClassId) (g : Nat → Int32) (sp : Nat → Int32) (nx : Int32) (lt : Int32) (sm : Int32) (ex : Int32) (iw : Int32) (io : Int32) (id : Int32) (ia : Int32) (ib : Int32) (ii : Int32) (is : Int32) (iu : Int32) (_q0 : Nat) : kMi l y_Cmp_runsExtended b_Cmp_runsExtended 4 (some .boolean) 3 68 D kCl [(cG, .int), (cX, .int)] [.ref aC, .ref aI] [(aS, .inr (9, [.ref aG, .ref aX, .int nx, .int lt, .int sm, .int ex])), (aG, .inl (cG, 32, .inl g)), (aX, .inl (cX, 64, .inl sp)), (aI, .inr (5, [.int iw, .int io, .int id, .int ia, .int ib, .int ii, .int is, .int iu])), (aC, .inr (3, [.ref aS]))] (f_Cmp_runsExtended g sp nx lt ex id ia ib ii).1 [(aS, .inr (9, [.ref aG, .ref aX, .int (f_Cmp_runsExtended g sp nx lt ex id ia ib ii).2.2.1, .int (f_Cmp_runsExtended g sp nx lt ex id ia ib ii).2.2.2.1, .int sm, .int (f_Cmp_runsExtended g sp nx lt ex id ia ib ii).2.2.2.2])), (aG, .inl (cG, 32, .inl g)), (aX, .inl (cX, 64, .inl (f_Cmp_runsExtended g sp nx lt ex id ia ib ii).2.1)), (aI, .inr (5, [.int iw, .int io, .int id, .int ia, .int ib, .int ii, .int is, .int iu])), (aC, .inr (3, [.ref aS]))] := by
  refine k_entry (Qc := fun A => kQi D kCl [(cG, .int), (cX, .int)] (f_Cmp_runsExtended g sp nx lt ex id ia ib ii).1 [(aS, .inr (9, [.ref aG, .ref aX, .int (f_Cmp_runsExtended g sp nx lt ex id ia ib ii).2.2.1, .int (f_Cmp_runsExtended g sp nx lt ex id ia ib ii).2.2.2.1, .int sm, .int (f_Cmp_runsExtended g sp nx lt ex id ia ib ii).2.2.2.2])), (aG, .inl (cG, 32, .inl g)), (aX, .inl (cX, 64, .inl (f_Cmp_runsExtended g sp nx lt ex id ia ib ii).2.1)), (aI, .inr (5, [.int iw, .int io, .int id, .int ia, .int ib, .int ii, .int is, .int iu])), (aC, .inr (3, [.ref aS]))] A) (lv := [(0, .ref aC), (1, .ref aI)]) (by decide) (Nat.le_of_ble_eq_true rfl) rfl ?_
  intro p e s m below meth c A ls hx hb hr hml hB hown hlocks hin hA hK hN hP hD hS hl
  have hown : s.vm.findClass "MappedProcessor$Comparisons" = some m.cls := hown
  refine lv_aload_n hx hb d_Cmp_runsExtended_0 rfl (lv_at hl 0 rfl) ?_
  refine va_get (D := D) (ci := 3) (v := .ref aS) (C := "MappedProcessor$Comparisons") (T := T_Cmp) (N := 1) hx hb hB iw_Cmp hown hK hP 4 rfl rfl 0 (by decide) (hB _ mw_149) (fun _ h9 => h9) rfl d_Cmp_runsExtended_1 ?_
  refine lv_aload_n hx hb d_Cmp_runsExtended_4 rfl (lv_at hl 1 rfl) ?_
  refine va_get (D := D) (ci := 5) (v := .int ia) (C := "MappedProcessor$Instruction") (T := T_Ins) (N := 8) hx hb hB iw_Ins hown hK hP 3 rfl rfl 3 (by decide) (hB _ mw_97) (fun _ h9 => h9) rfl d_Cmp_runsExtended_5 ?_
  refine k_cVi (As := [.int ia]) (rest := []) (wr := [(aI, .inr (5, [.int iw, .int io, .int id, .int ia, .int ib, .int ii, .int is, .int iu])), (aC, .inr (3, [.ref aS]))]) (wj := [(aS, .inr (9, [.ref aG, .ref aX, .int nx, .int lt, .int sm, .int ex])), (aG, .inl (cG, 32, .inl g)), (aX, .inl (cX, 64, .inl sp)), (aI, .inr (5, [.int iw, .int io, .int id, .int ia, .int ib, .int ii, .int is, .int iu])), (aC, .inr (3, [.ref aS]))]) ⟨hx, hb, hml, hown, hB⟩ (c_Sta_register l D aS aG aX cG cX g sp nx lt sm ex ia) yl_Sta_register mw_378 hK hN hP hD hS hA [0, 1] [0, 1, 2] [3, 4] [2, 3, 4, 0, 1] rfl rfl rfl rfl (by decide +kernel) 0 rfl rfl rfl rfl hl.1 rfl (Nat.le_of_ble_eq_true rfl) ⟨Nat.le_of_ble_eq_true rfl, Nat.le_of_ble_eq_true rfl⟩ d_Cmp_runsExtended_8 ⟨Nat.le_of_ble_eq_true rfl, Nat.le_of_ble_eq_true rfl⟩ (fun H locs hP hD hS => ?_)
  refine lv_istore_n (lv' := [(2, .int (f_Sta_register ia g)), (0, .ref aC), (1, .ref aI)]) hx hb d_Cmp_runsExtended_11 rfl hl (by decide) rfl (fun ls hl => ?_)
  refine lv_aload_n hx hb d_Cmp_runsExtended_12 rfl (lv_at hl 1 rfl) ?_
  refine va_get (D := D) (ci := 3) (v := .ref aS) (C := "MappedProcessor$Comparisons") (T := T_Cmp) (N := 1) hx hb hB iw_Cmp hown hK hP 4 rfl rfl 0 (by decide) (hB _ mw_149) (fun _ h9 => h9) rfl d_Cmp_runsExtended_13 ?_
  refine lv_aload_n hx hb d_Cmp_runsExtended_16 rfl (lv_at hl 2 rfl) ?_
  refine va_get (D := D) (ci := 5) (v := .int ib) (C := "MappedProcessor$Instruction") (T := T_Ins) (N := 8) hx hb hB iw_Ins hown hK hP 3 rfl rfl 4 (by decide) (hB _ mw_106) (fun _ h9 => h9) rfl d_Cmp_runsExtended_17 ?_
  refine k_cVi (As := [.int ib]) (rest := []) (wr := [(aI, .inr (5, [.int iw, .int io, .int id, .int ia, .int ib, .int ii, .int is, .int iu])), (aC, .inr (3, [.ref aS]))]) (wj := [(aS, .inr (9, [.ref aG, .ref aX, .int nx, .int lt, .int sm, .int ex])), (aG, .inl (cG, 32, .inl g)), (aX, .inl (cX, 64, .inl sp)), (aI, .inr (5, [.int iw, .int io, .int id, .int ia, .int ib, .int ii, .int is, .int iu])), (aC, .inr (3, [.ref aS]))]) ⟨hx, hb, hml, hown, hB⟩ (c_Sta_register l D aS aG aX cG cX g sp nx lt sm ex ib) yl_Sta_register mw_378 hK hN hP hD hS hA [0, 1] [0, 1, 2] [3, 4] [2, 3, 4, 0, 1] rfl rfl rfl rfl (by decide +kernel) 0 rfl rfl rfl rfl hl.1 rfl (Nat.le_of_ble_eq_true rfl) ⟨Nat.le_of_ble_eq_true rfl, Nat.le_of_ble_eq_true rfl⟩ d_Cmp_runsExtended_20 ⟨Nat.le_of_ble_eq_true rfl, Nat.le_of_ble_eq_true rfl⟩ (fun H locs hP hD hS => ?_)
  refine lv_istore_n (lv' := [(3, .int (f_Sta_register ib g)), (2, .int (f_Sta_register ia g)), (0, .ref aC), (1, .ref aI)]) hx hb d_Cmp_runsExtended_23 rfl hl (by decide) rfl (fun ls hl => ?_)
  refine lv_aload_n hx hb d_Cmp_runsExtended_24 rfl (lv_at hl 3 rfl) ?_
  refine va_get (D := D) (ci := 5) (v := .int ii) (C := "MappedProcessor$Instruction") (T := T_Ins) (N := 8) hx hb hB iw_Ins hown hK hP 3 rfl rfl 5 (by decide) (hB _ mw_115) (fun _ h9 => h9) rfl d_Cmp_runsExtended_25 ?_
  by_cases h1 : ii = (0 : Int32)
  · refine lv_lookup (off := 36) (tgt := 64) hx hb d_Cmp_runsExtended_28 (by decide) (by have hq9 := h1 <;> rw [hq9] <;> rfl) (by decide) ?_
    refine lv_aload_n hx hb d_Cmp_runsExtended_64 rfl (lv_at hl 2 rfl) ?_
    refine va_get (D := D) (ci := 3) (v := .ref aS) (C := "MappedProcessor$Comparisons") (T := T_Cmp) (N := 1) hx hb hB iw_Cmp hown hK hP 4 rfl rfl 0 (by decide) (hB _ mw_149) (fun _ h9 => h9) rfl d_Cmp_runsExtended_65 ?_
    refine lv_aload_n hx hb d_Cmp_runsExtended_68 rfl (lv_at hl 3 rfl) ?_
    refine va_get (D := D) (ci := 5) (v := .int id) (C := "MappedProcessor$Instruction") (T := T_Ins) (N := 8) hx hb hB iw_Ins hown hK hP 3 rfl rfl 2 (by decide) (hB _ mw_94) (fun _ h9 => h9) rfl d_Cmp_runsExtended_69 ?_
    refine lv_iconst (v := (2 : Int32)) hx hb d_Cmp_runsExtended_72 (by decide) ?_
    refine lv_ishr hx hb d_Cmp_runsExtended_73 ?_
    refine lv_iload_n hx hb d_Cmp_runsExtended_74 rfl (lv_at hl 1 rfl) ?_
    refine lv_iload_n hx hb d_Cmp_runsExtended_75 rfl (lv_at hl 0 rfl) ?_
    refine k_cSi (As := [.int (f_Sta_register ia g), .int (f_Sta_register ib g)]) (rest := [.int (shr id (2 : Int32)), .ref aS]) (wr := [(aS, .inr (9, [.ref aG, .ref aX, .int nx, .int lt, .int sm, .int ex])), (aG, .inl (cG, 32, .inl g)), (aX, .inl (cX, 64, .inl sp)), (aI, .inr (5, [.int iw, .int io, .int id, .int ia, .int ib, .int ii, .int is, .int iu])), (aC, .inr (3, [.ref aS]))]) (wj := [(aS, .inr (9, [.ref aG, .ref aX, .int nx, .int lt, .int sm, .int ex])), (aG, .inl (cG, 32, .inl g)), (aX, .inl (cX, 64, .inl sp)), (aI, .inr (5, [.int iw, .int io, .int id, .int ia, .int ib, .int ii, .int is, .int iu])), (aC, .inr (3, [.ref aS]))]) ⟨hx, hb, hml, hown, hB⟩ (c_Int_compare l D (f_Sta_register ia g) (f_Sta_register ib g)) yl_Int_compare mw_383 hK hN hP hD hS hA [] [] [0, 1, 2, 3, 4] [0, 1, 2, 3, 4] rfl rfl rfl rfl (by decide +kernel) rfl hl.1 rfl (Nat.le_of_ble_eq_true rfl) ⟨Nat.le_of_ble_eq_true rfl, Nat.le_of_ble_eq_true rfl⟩ d_Cmp_runsExtended_76 ⟨Nat.le_of_ble_eq_true rfl, Nat.le_of_ble_eq_true rfl⟩ (fun H locs hP hD hS => ?_)
    refine k_cVv (As := [.int (shr id (2 : Int32)), .int (f_Int_compare (f_Sta_register ia g) (f_Sta_register ib g))]) (rest := []) (wr := [(aI, .inr (5, [.int iw, .int io, .int id, .int ia, .int ib, .int ii, .int is, .int iu])), (aC, .inr (3, [.ref aS]))]) (wj := [(aS, .inr (9, [.ref aG, .ref aX, .int nx, .int lt, .int sm, .int ex])), (aG, .inl (cG, 32, .inl g)), (aX, .inl (cX, 64, .inl (f_Sta_keepOrder (shr id (2 : Int32)) (f_Int_compare (f_Sta_register ia g) (f_Sta_register ib g)) sp))), (aI, .inr (5, [.int iw, .int io, .int id, .int ia, .int ib, .int ii, .int is, .int iu])), (aC, .inr (3, [.ref aS]))]) ⟨hx, hb, hml, hown, hB⟩ (c_Sta_keepOrder l D aS aG aX cG cX g sp nx lt sm ex (shr id (2 : Int32)) (f_Int_compare (f_Sta_register ia g) (f_Sta_register ib g))) yl_Sta_keepOrder mw_393 hK hN hP hD hS hA [0, 1] [0, 1, 2] [3, 4] [2, 3, 4, 0, 1] rfl rfl rfl rfl (by decide +kernel) 0 rfl rfl rfl rfl hl.1 rfl (Nat.le_of_ble_eq_true rfl) ⟨Nat.le_of_ble_eq_true rfl, Nat.le_of_ble_eq_true rfl⟩ d_Cmp_runsExtended_79 ⟨Nat.le_of_ble_eq_true rfl, Nat.le_of_ble_eq_true rfl⟩ (fun H locs hP hD hS => ?_)
    refine lv_iconst (v := (1 : Int32)) hx hb d_Cmp_runsExtended_82 (by decide) ?_
    have ef : f_Cmp_runsExtended g sp nx lt ex id ia ib ii = ((1 : Int32), (f_Sta_keepOrder (shr id (2 : Int32)) (f_Int_compare (f_Sta_register ia g) (f_Sta_register ib g)) sp), nx, lt, ex) := by unfold f_Cmp_runsExtended; try dsimp only; rw [if_pos h1]
    exact k_zret hx hb hr hlocks hK hP hD hS [0, 1, 2, 3, 4] rfl (by rw [ef] <;> rfl) (by rw [ef] <;> rfl) nb1 d_Cmp_runsExtended_83
  · by_cases h2 : ii = (4 : Int32)
    · refine lv_lookup (off := 56) (tgt := 84) hx hb d_Cmp_runsExtended_28 (by decide) (by have hq9 := h2 <;> rw [hq9] <;> rfl) (by decide) ?_
      refine lv_aload_n hx hb d_Cmp_runsExtended_84 rfl (lv_at hl 2 rfl) ?_
      refine lv_aload_n hx hb d_Cmp_runsExtended_85 rfl (lv_at hl 3 rfl) ?_
      refine va_get (D := D) (ci := 5) (v := .int id) (C := "MappedProcessor$Instruction") (T := T_Ins) (N := 8) hx hb hB iw_Ins hown hK hP 3 rfl rfl 2 (by decide) (hB _ mw_94) (fun _ h9 => h9) rfl d_Cmp_runsExtended_86 ?_
      refine lv_iload_n hx hb d_Cmp_runsExtended_89 rfl (lv_at hl 1 rfl) ?_
      refine lv_iload_n hx hb d_Cmp_runsExtended_90 rfl (lv_at hl 0 rfl) ?_
      let t3 := (f_Cmp_trap id (f_Sta_register ia g) (f_Sta_register ib g) sp nx lt ex)
      refine k_cVv (As := [.int id, .int (f_Sta_register ia g), .int (f_Sta_register ib g)]) (rest := []) (wr := [(aI, .inr (5, [.int iw, .int io, .int id, .int ia, .int ib, .int ii, .int is, .int iu]))]) (wj := [(aS, .inr (9, [.ref aG, .ref aX, .int t3.2.1, .int t3.2.2.1, .int sm, .int t3.2.2.2])), (aG, .inl (cG, 32, .inl g)), (aX, .inl (cX, 64, .inl t3.1)), (aI, .inr (5, [.int iw, .int io, .int id, .int ia, .int ib, .int ii, .int is, .int iu])), (aC, .inr (3, [.ref aS]))]) ⟨hx, hb, hml, hown, hB⟩ (c_Cmp_trap l D aS aG aX aC cG cX g sp nx lt sm ex id (f_Sta_register ia g) (f_Sta_register ib g)) yl_Cmp_trap mw_379 hK hN hP hD hS hA [0, 1] [0, 1, 2, 4] [3] [1, 2, 3, 0, 4] rfl rfl rfl rfl (by decide +kernel) 3 rfl rfl rfl rfl hl.1 rfl (Nat.le_of_ble_eq_true rfl) ⟨Nat.le_of_ble_eq_true rfl, Nat.le_of_ble_eq_true rfl⟩ d_Cmp_runsExtended_91 ⟨Nat.le_of_ble_eq_true rfl, Nat.le_of_ble_eq_true rfl⟩ (fun H locs hP hD hS => ?_)
      refine lv_iconst (v := (1 : Int32)) hx hb d_Cmp_runsExtended_94 (by decide) ?_
      have ef : f_Cmp_runsExtended g sp nx lt ex id ia ib ii = ((1 : Int32), t3.1, t3.2.1, t3.2.2.1, t3.2.2.2) := by unfold f_Cmp_runsExtended; try dsimp only; rw [if_neg h1, if_pos h2]
      exact k_zret hx hb hr hlocks hK hP hD hS [0, 1, 2, 3, 4] rfl (by rw [ef] <;> rfl) (by rw [ef] <;> rfl) nb1 d_Cmp_runsExtended_95
    · by_cases h4 : ii = (32 : Int32)
      · refine lv_lookup (off := 68) (tgt := 96) hx hb d_Cmp_runsExtended_28 (by decide) (by have hq9 := h4 <;> rw [hq9] <;> rfl) (by decide) ?_
        refine lv_aload_n hx hb d_Cmp_runsExtended_96 rfl (lv_at hl 2 rfl) ?_
        refine va_get (D := D) (ci := 3) (v := .ref aS) (C := "MappedProcessor$Comparisons") (T := T_Cmp) (N := 1) hx hb hB iw_Cmp hown hK hP 4 rfl rfl 0 (by decide) (hB _ mw_149) (fun _ h9 => h9) rfl d_Cmp_runsExtended_97 ?_
        refine lv_aload_n hx hb d_Cmp_runsExtended_100 rfl (lv_at hl 3 rfl) ?_
        refine va_get (D := D) (ci := 5) (v := .int id) (C := "MappedProcessor$Instruction") (T := T_Ins) (N := 8) hx hb hB iw_Ins hown hK hP 3 rfl rfl 2 (by decide) (hB _ mw_94) (fun _ h9 => h9) rfl d_Cmp_runsExtended_101 ?_
        refine lv_iconst (v := (2 : Int32)) hx hb d_Cmp_runsExtended_104 (by decide) ?_
        refine lv_ishr hx hb d_Cmp_runsExtended_105 ?_
        refine lv_iload_n hx hb d_Cmp_runsExtended_106 rfl (lv_at hl 1 rfl) ?_
        refine lv_iload_n hx hb d_Cmp_runsExtended_107 rfl (lv_at hl 0 rfl) ?_
        refine k_cSi (As := [.int (f_Sta_register ia g), .int (f_Sta_register ib g)]) (rest := [.int (shr id (2 : Int32)), .ref aS]) (wr := [(aS, .inr (9, [.ref aG, .ref aX, .int nx, .int lt, .int sm, .int ex])), (aG, .inl (cG, 32, .inl g)), (aX, .inl (cX, 64, .inl sp)), (aI, .inr (5, [.int iw, .int io, .int id, .int ia, .int ib, .int ii, .int is, .int iu])), (aC, .inr (3, [.ref aS]))]) (wj := [(aS, .inr (9, [.ref aG, .ref aX, .int nx, .int lt, .int sm, .int ex])), (aG, .inl (cG, 32, .inl g)), (aX, .inl (cX, 64, .inl sp)), (aI, .inr (5, [.int iw, .int io, .int id, .int ia, .int ib, .int ii, .int is, .int iu])), (aC, .inr (3, [.ref aS]))]) ⟨hx, hb, hml, hown, hB⟩ (c_Int_compareUnsigned l D (f_Sta_register ia g) (f_Sta_register ib g)) yl_Int_compareUnsigned mw_386 hK hN hP hD hS hA [] [] [0, 1, 2, 3, 4] [0, 1, 2, 3, 4] rfl rfl rfl rfl (by decide +kernel) rfl hl.1 rfl (Nat.le_of_ble_eq_true rfl) ⟨Nat.le_of_ble_eq_true rfl, Nat.le_of_ble_eq_true rfl⟩ d_Cmp_runsExtended_108 ⟨Nat.le_of_ble_eq_true rfl, Nat.le_of_ble_eq_true rfl⟩ (fun H locs hP hD hS => ?_)
        refine k_cVv (As := [.int (shr id (2 : Int32)), .int (f_Int_compareUnsigned (f_Sta_register ia g) (f_Sta_register ib g))]) (rest := []) (wr := [(aI, .inr (5, [.int iw, .int io, .int id, .int ia, .int ib, .int ii, .int is, .int iu])), (aC, .inr (3, [.ref aS]))]) (wj := [(aS, .inr (9, [.ref aG, .ref aX, .int nx, .int lt, .int sm, .int ex])), (aG, .inl (cG, 32, .inl g)), (aX, .inl (cX, 64, .inl (f_Sta_keepOrder (shr id (2 : Int32)) (f_Int_compareUnsigned (f_Sta_register ia g) (f_Sta_register ib g)) sp))), (aI, .inr (5, [.int iw, .int io, .int id, .int ia, .int ib, .int ii, .int is, .int iu])), (aC, .inr (3, [.ref aS]))]) ⟨hx, hb, hml, hown, hB⟩ (c_Sta_keepOrder l D aS aG aX cG cX g sp nx lt sm ex (shr id (2 : Int32)) (f_Int_compareUnsigned (f_Sta_register ia g) (f_Sta_register ib g))) yl_Sta_keepOrder mw_393 hK hN hP hD hS hA [0, 1] [0, 1, 2] [3, 4] [2, 3, 4, 0, 1] rfl rfl rfl rfl (by decide +kernel) 0 rfl rfl rfl rfl hl.1 rfl (Nat.le_of_ble_eq_true rfl) ⟨Nat.le_of_ble_eq_true rfl, Nat.le_of_ble_eq_true rfl⟩ d_Cmp_runsExtended_111 ⟨Nat.le_of_ble_eq_true rfl, Nat.le_of_ble_eq_true rfl⟩ (fun H locs hP hD hS => ?_)
        refine lv_iconst (v := (1 : Int32)) hx hb d_Cmp_runsExtended_114 (by decide) ?_
        have ef : f_Cmp_runsExtended g sp nx lt ex id ia ib ii = ((1 : Int32), (f_Sta_keepOrder (shr id (2 : Int32)) (f_Int_compareUnsigned (f_Sta_register ia g) (f_Sta_register ib g)) sp), nx, lt, ex) := by unfold f_Cmp_runsExtended; try dsimp only; rw [if_neg h1, if_neg h2, if_pos h4]
        exact k_zret hx hb hr hlocks hK hP hD hS [0, 1, 2, 3, 4] rfl (by rw [ef] <;> rfl) (by rw [ef] <;> rfl) nb1 d_Cmp_runsExtended_115
      · refine lv_lookup (off := 88) (tgt := 116) hx hb d_Cmp_runsExtended_28 (by decide) (by rw [lv_osw (k := (0 : Int32)) h1 (by decide), lv_osw (k := (4 : Int32)) h2 (by decide), lv_osw (k := (32 : Int32)) h4 (by decide)]; rfl) (by decide) ?_
        refine lv_iconst (v := (0 : Int32)) hx hb d_Cmp_runsExtended_116 (by decide) ?_
        have ef : f_Cmp_runsExtended g sp nx lt ex id ia ib ii = ((0 : Int32), sp, nx, lt, ex) := by unfold f_Cmp_runsExtended; try dsimp only; rw [if_neg h1, if_neg h2, if_neg h4]
        exact k_zret hx hb hr hlocks hK hP hD hS [0, 1, 2, 3, 4] rfl (by rw [ef] <;> rfl) (by rw [ef] <;> rfl) nb0 d_Cmp_runsExtended_117
/-! MappedProcessor$Arithmetic.quotient(II)I -/
theorem d_Ari_quotient_0 : decode b_Ari_quotient 0 = .ok (.iload_n 1, 1) := by decide +kernel
theorem d_Ari_quotient_1 : decode b_Ari_quotient 1 = .ok (.ifCond .eq 14, 3) := by decide +kernel
theorem d_Ari_quotient_4 : decode b_Ari_quotient 4 = .ok (.iload_n 0, 1) := by decide +kernel
theorem d_Ari_quotient_5 : decode b_Ari_quotient 5 = .ok (.ldc 66, 2) := by decide +kernel
theorem d_Ari_quotient_7 : decode b_Ari_quotient 7 = .ok (.if_icmp .ne 12, 3) := by decide +kernel
theorem d_Ari_quotient_10 : decode b_Ari_quotient 10 = .ok (.iload_n 1, 1) := by decide +kernel
theorem d_Ari_quotient_11 : decode b_Ari_quotient 11 = .ok (.iconst (-1), 1) := by decide +kernel
theorem d_Ari_quotient_12 : decode b_Ari_quotient 12 = .ok (.if_icmp .ne 7, 3) := by decide +kernel
theorem d_Ari_quotient_15 : decode b_Ari_quotient 15 = .ok (.iconst 0, 1) := by decide +kernel
theorem d_Ari_quotient_16 : decode b_Ari_quotient 16 = .ok (.goto 6, 3) := by decide +kernel
theorem d_Ari_quotient_19 : decode b_Ari_quotient 19 = .ok (.iload_n 0, 1) := by decide +kernel
theorem d_Ari_quotient_20 : decode b_Ari_quotient 20 = .ok (.iload_n 1, 1) := by decide +kernel
theorem d_Ari_quotient_21 : decode b_Ari_quotient 21 = .ok (.idiv, 1) := by decide +kernel
theorem d_Ari_quotient_22 : decode b_Ari_quotient 22 = .ok (.ireturn, 1) := by decide +kernel
def f_Ari_quotient (p0 : Int32) (p1 : Int32) : Int32 :=
  if p1 = (0 : Int32) then
    (0 : Int32)
  else
    if p0 = (-2147483648 : Int32) then
      if p1 = (-1 : Int32) then
        (0 : Int32)
      else
        (p0 / p1)
    else
      (p0 / p1)
set_option maxHeartbeats 4000000 in
set_option maxRecDepth 100000 in
theorem c_Ari_quotient (l : Launch) (D : va_G) (p0 : Int32) (p1 : Int32) : kMi l y_Ari_quotient b_Ari_quotient 2 (some .int) 0 0 D kCl [] [.int p0, .int p1] [] (f_Ari_quotient p0 p1) [] := by
  refine k_entry (Qc := fun A => kQi D kCl [] (f_Ari_quotient p0 p1) [] A) (lv := [(0, .int p0), (1, .int p1)]) (by decide) (Nat.le_of_ble_eq_true rfl) rfl ?_
  intro p e s m below meth c A ls hx hb hr hml hB hown hlocks hin hA hK hN hP hD hS hl
  have hown : s.vm.findClass "MappedProcessor$Arithmetic" = some m.cls := hown
  refine lv_iload_n hx hb d_Ari_quotient_0 rfl (lv_at hl 1 rfl) ?_
  refine lv_if_eq (tgt := 15) hx hb d_Ari_quotient_1 (by decide) (fun (h7 : p1 = (0 : Int32)) => ?_) (fun (h7 : ¬ p1 = (0 : Int32)) => ?_)
  · refine lv_iconst (v := (0 : Int32)) hx hb d_Ari_quotient_15 (by decide) ?_
    refine lv_goto (tgt := 22) hx hb d_Ari_quotient_16 (by decide) ?_
    have ef : f_Ari_quotient p0 p1 = (0 : Int32) := by unfold f_Ari_quotient; rw [if_pos h7]
    exact k_iret hx hb hr hlocks hK hP hD hS [] rfl rfl (by rw [ef] <;> rfl) d_Ari_quotient_22
  · refine lv_iload_n hx hb d_Ari_quotient_4 rfl (lv_at hl 0 rfl) ?_
    refine lv_ldc (v := (-2147483648 : Int32)) hx hb hown (hB _ mw_511) d_Ari_quotient_5 ?_
    refine lv_icmp_ne (tgt := 19) hx hb d_Ari_quotient_7 (by decide) (fun (h11 : ¬ p0 = (-2147483648 : Int32)) => ?_) (fun (h11 : p0 = (-2147483648 : Int32)) => ?_)
    · refine lv_iload_n hx hb d_Ari_quotient_19 rfl (lv_at hl 0 rfl) ?_
      refine lv_iload_n hx hb d_Ari_quotient_20 rfl (lv_at hl 1 rfl) ?_
      refine lv_idiv hx hb d_Ari_quotient_21 h7 ?_
      have ef : f_Ari_quotient p0 p1 = (p0 / p1) := by unfold f_Ari_quotient; rw [if_neg h7, if_neg h11]
      exact k_iret hx hb hr hlocks hK hP hD hS [] rfl rfl (by rw [ef] <;> rfl) d_Ari_quotient_22
    · refine lv_iload_n hx hb d_Ari_quotient_10 rfl (lv_at hl 1 rfl) ?_
      refine lv_iconst (v := (-1 : Int32)) hx hb d_Ari_quotient_11 (by decide) ?_
      refine lv_icmp_ne (tgt := 19) hx hb d_Ari_quotient_12 (by decide) (fun (h15 : ¬ p1 = (-1 : Int32)) => ?_) (fun (h15 : p1 = (-1 : Int32)) => ?_)
      · refine lv_iload_n hx hb d_Ari_quotient_19 rfl (lv_at hl 0 rfl) ?_
        refine lv_iload_n hx hb d_Ari_quotient_20 rfl (lv_at hl 1 rfl) ?_
        refine lv_idiv hx hb d_Ari_quotient_21 h7 ?_
        have ef : f_Ari_quotient p0 p1 = (p0 / p1) := by unfold f_Ari_quotient; rw [if_neg h7, if_pos h11, if_neg h15]
        exact k_iret hx hb hr hlocks hK hP hD hS [] rfl rfl (by rw [ef] <;> rfl) d_Ari_quotient_22
      · refine lv_iconst (v := (0 : Int32)) hx hb d_Ari_quotient_15 (by decide) ?_
        refine lv_goto (tgt := 22) hx hb d_Ari_quotient_16 (by decide) ?_
        have ef : f_Ari_quotient p0 p1 = (0 : Int32) := by unfold f_Ari_quotient; rw [if_neg h7, if_pos h11, if_pos h15]
        exact k_iret hx hb hr hlocks hK hP hD hS [] rfl rfl (by rw [ef] <;> rfl) d_Ari_quotient_22
/-! MappedProcessor$Arithmetic.runsExtended(LMappedProcessor$Instruction;)Z -/
theorem d_Ari_runsExtended_0 : decode b_Ari_runsExtended 0 = .ok (.aload_n 0, 1) := by decide +kernel
theorem d_Ari_runsExtended_1 : decode b_Ari_runsExtended 1 = .ok (.getfield 7, 3) := by decide +kernel
theorem d_Ari_runsExtended_4 : decode b_Ari_runsExtended 4 = .ok (.aload_n 1, 1) := by decide +kernel
theorem d_Ari_runsExtended_5 : decode b_Ari_runsExtended 5 = .ok (.getfield 13, 3) := by decide +kernel
theorem d_Ari_runsExtended_8 : decode b_Ari_runsExtended 8 = .ok (.invokevirtual 19, 3) := by decide +kernel
theorem d_Ari_runsExtended_11 : decode b_Ari_runsExtended 11 = .ok (.istore_n 2, 1) := by decide +kernel
theorem d_Ari_runsExtended_12 : decode b_Ari_runsExtended 12 = .ok (.aload_n 0, 1) := by decide +kernel
theorem d_Ari_runsExtended_13 : decode b_Ari_runsExtended 13 = .ok (.getfield 7, 3) := by decide +kernel
theorem d_Ari_runsExtended_16 : decode b_Ari_runsExtended 16 = .ok (.aload_n 1, 1) := by decide +kernel
theorem d_Ari_runsExtended_17 : decode b_Ari_runsExtended 17 = .ok (.getfield 46, 3) := by decide +kernel
theorem d_Ari_runsExtended_20 : decode b_Ari_runsExtended 20 = .ok (.invokevirtual 19, 3) := by decide +kernel
theorem d_Ari_runsExtended_23 : decode b_Ari_runsExtended 23 = .ok (.istore_n 3, 1) := by decide +kernel
theorem d_Ari_runsExtended_24 : decode b_Ari_runsExtended 24 = .ok (.aload_n 1, 1) := by decide +kernel
theorem d_Ari_runsExtended_25 : decode b_Ari_runsExtended 25 = .ok (.getfield 49, 3) := by decide +kernel
theorem d_Ari_runsExtended_28 : decode b_Ari_runsExtended 28 = .ok (.lookupswitch 276 #[(8, 108), (10, 122), (11, 134), (40, 156), (75, 164), (104, 178), (136, 185), (138, 205), (235, 223), (266, 231), (459, 239), (491, 266)], 108) := by decide +kernel
theorem d_Ari_runsExtended_136 : decode b_Ari_runsExtended 136 = .ok (.aload_n 0, 1) := by decide +kernel
theorem d_Ari_runsExtended_137 : decode b_Ari_runsExtended 137 = .ok (.iload_n 2, 1) := by decide +kernel
theorem d_Ari_runsExtended_138 : decode b_Ari_runsExtended 138 = .ok (.iconst (-1), 1) := by decide +kernel
theorem d_Ari_runsExtended_139 : decode b_Ari_runsExtended 139 = .ok (.ixor, 1) := by decide +kernel
theorem d_Ari_runsExtended_140 : decode b_Ari_runsExtended 140 = .ok (.iload_n 3, 1) := by decide +kernel
theorem d_Ari_runsExtended_141 : decode b_Ari_runsExtended 141 = .ok (.iconst 1, 1) := by decide +kernel
theorem d_Ari_runsExtended_142 : decode b_Ari_runsExtended 142 = .ok (.invokevirtual 31, 3) := by decide +kernel
theorem d_Ari_runsExtended_145 : decode b_Ari_runsExtended 145 = .ok (.istore 4, 2) := by decide +kernel
theorem d_Ari_runsExtended_147 : decode b_Ari_runsExtended 147 = .ok (.goto 159, 3) := by decide +kernel
theorem d_Ari_runsExtended_150 : decode b_Ari_runsExtended 150 = .ok (.aload_n 0, 1) := by decide +kernel
theorem d_Ari_runsExtended_151 : decode b_Ari_runsExtended 151 = .ok (.iload_n 2, 1) := by decide +kernel
theorem d_Ari_runsExtended_152 : decode b_Ari_runsExtended 152 = .ok (.iload_n 3, 1) := by decide +kernel
theorem d_Ari_runsExtended_153 : decode b_Ari_runsExtended 153 = .ok (.iconst 0, 1) := by decide +kernel
theorem d_Ari_runsExtended_154 : decode b_Ari_runsExtended 154 = .ok (.invokevirtual 31, 3) := by decide +kernel
theorem d_Ari_runsExtended_157 : decode b_Ari_runsExtended 157 = .ok (.istore 4, 2) := by decide +kernel
theorem d_Ari_runsExtended_159 : decode b_Ari_runsExtended 159 = .ok (.goto 147, 3) := by decide +kernel
theorem d_Ari_runsExtended_162 : decode b_Ari_runsExtended 162 = .ok (.iload_n 2, 1) := by decide +kernel
theorem d_Ari_runsExtended_163 : decode b_Ari_runsExtended 163 = .ok (.i2l, 1) := by decide +kernel
theorem d_Ari_runsExtended_164 : decode b_Ari_runsExtended 164 = .ok (.ldc2_w 52, 3) := by decide +kernel
theorem d_Ari_runsExtended_167 : decode b_Ari_runsExtended 167 = .ok (.land, 1) := by decide +kernel
theorem d_Ari_runsExtended_168 : decode b_Ari_runsExtended 168 = .ok (.iload_n 3, 1) := by decide +kernel
theorem d_Ari_runsExtended_169 : decode b_Ari_runsExtended 169 = .ok (.i2l, 1) := by decide +kernel
theorem d_Ari_runsExtended_170 : decode b_Ari_runsExtended 170 = .ok (.ldc2_w 52, 3) := by decide +kernel
theorem d_Ari_runsExtended_173 : decode b_Ari_runsExtended 173 = .ok (.land, 1) := by decide +kernel
theorem d_Ari_runsExtended_174 : decode b_Ari_runsExtended 174 = .ok (.lmul, 1) := by decide +kernel
theorem d_Ari_runsExtended_175 : decode b_Ari_runsExtended 175 = .ok (.bipush 32, 2) := by decide +kernel
theorem d_Ari_runsExtended_177 : decode b_Ari_runsExtended 177 = .ok (.lushr, 1) := by decide +kernel
theorem d_Ari_runsExtended_178 : decode b_Ari_runsExtended 178 = .ok (.l2i, 1) := by decide +kernel
theorem d_Ari_runsExtended_179 : decode b_Ari_runsExtended 179 = .ok (.istore 4, 2) := by decide +kernel
theorem d_Ari_runsExtended_181 : decode b_Ari_runsExtended 181 = .ok (.goto 125, 3) := by decide +kernel
theorem d_Ari_runsExtended_184 : decode b_Ari_runsExtended 184 = .ok (.iload_n 3, 1) := by decide +kernel
theorem d_Ari_runsExtended_185 : decode b_Ari_runsExtended 185 = .ok (.iload_n 2, 1) := by decide +kernel
theorem d_Ari_runsExtended_186 : decode b_Ari_runsExtended 186 = .ok (.isub, 1) := by decide +kernel
theorem d_Ari_runsExtended_187 : decode b_Ari_runsExtended 187 = .ok (.istore 4, 2) := by decide +kernel
theorem d_Ari_runsExtended_189 : decode b_Ari_runsExtended 189 = .ok (.goto 117, 3) := by decide +kernel
theorem d_Ari_runsExtended_192 : decode b_Ari_runsExtended 192 = .ok (.iload_n 2, 1) := by decide +kernel
theorem d_Ari_runsExtended_193 : decode b_Ari_runsExtended 193 = .ok (.i2l, 1) := by decide +kernel
theorem d_Ari_runsExtended_194 : decode b_Ari_runsExtended 194 = .ok (.iload_n 3, 1) := by decide +kernel
theorem d_Ari_runsExtended_195 : decode b_Ari_runsExtended 195 = .ok (.i2l, 1) := by decide +kernel
theorem d_Ari_runsExtended_196 : decode b_Ari_runsExtended 196 = .ok (.lmul, 1) := by decide +kernel
theorem d_Ari_runsExtended_197 : decode b_Ari_runsExtended 197 = .ok (.bipush 32, 2) := by decide +kernel
theorem d_Ari_runsExtended_199 : decode b_Ari_runsExtended 199 = .ok (.lshr, 1) := by decide +kernel
theorem d_Ari_runsExtended_200 : decode b_Ari_runsExtended 200 = .ok (.l2i, 1) := by decide +kernel
theorem d_Ari_runsExtended_201 : decode b_Ari_runsExtended 201 = .ok (.istore 4, 2) := by decide +kernel
theorem d_Ari_runsExtended_203 : decode b_Ari_runsExtended 203 = .ok (.goto 103, 3) := by decide +kernel
theorem d_Ari_runsExtended_206 : decode b_Ari_runsExtended 206 = .ok (.iload_n 2, 1) := by decide +kernel
theorem d_Ari_runsExtended_207 : decode b_Ari_runsExtended 207 = .ok (.ineg, 1) := by decide +kernel
theorem d_Ari_runsExtended_208 : decode b_Ari_runsExtended 208 = .ok (.istore 4, 2) := by decide +kernel
theorem d_Ari_runsExtended_210 : decode b_Ari_runsExtended 210 = .ok (.goto 96, 3) := by decide +kernel
theorem d_Ari_runsExtended_213 : decode b_Ari_runsExtended 213 = .ok (.aload_n 0, 1) := by decide +kernel
theorem d_Ari_runsExtended_214 : decode b_Ari_runsExtended 214 = .ok (.iload_n 2, 1) := by decide +kernel
theorem d_Ari_runsExtended_215 : decode b_Ari_runsExtended 215 = .ok (.iconst (-1), 1) := by decide +kernel
theorem d_Ari_runsExtended_216 : decode b_Ari_runsExtended 216 = .ok (.ixor, 1) := by decide +kernel
theorem d_Ari_runsExtended_217 : decode b_Ari_runsExtended 217 = .ok (.iload_n 3, 1) := by decide +kernel
theorem d_Ari_runsExtended_218 : decode b_Ari_runsExtended 218 = .ok (.aload_n 0, 1) := by decide +kernel
theorem d_Ari_runsExtended_219 : decode b_Ari_runsExtended 219 = .ok (.getfield 7, 3) := by decide +kernel
theorem d_Ari_runsExtended_222 : decode b_Ari_runsExtended 222 = .ok (.invokevirtual 54, 3) := by decide +kernel
theorem d_Ari_runsExtended_225 : decode b_Ari_runsExtended 225 = .ok (.invokevirtual 31, 3) := by decide +kernel
theorem d_Ari_runsExtended_228 : decode b_Ari_runsExtended 228 = .ok (.istore 4, 2) := by decide +kernel
theorem d_Ari_runsExtended_230 : decode b_Ari_runsExtended 230 = .ok (.goto 76, 3) := by decide +kernel
theorem d_Ari_runsExtended_233 : decode b_Ari_runsExtended 233 = .ok (.aload_n 0, 1) := by decide +kernel
theorem d_Ari_runsExtended_234 : decode b_Ari_runsExtended 234 = .ok (.iload_n 2, 1) := by decide +kernel
theorem d_Ari_runsExtended_235 : decode b_Ari_runsExtended 235 = .ok (.iload_n 3, 1) := by decide +kernel
theorem d_Ari_runsExtended_236 : decode b_Ari_runsExtended 236 = .ok (.aload_n 0, 1) := by decide +kernel
theorem d_Ari_runsExtended_237 : decode b_Ari_runsExtended 237 = .ok (.getfield 7, 3) := by decide +kernel
theorem d_Ari_runsExtended_240 : decode b_Ari_runsExtended 240 = .ok (.invokevirtual 54, 3) := by decide +kernel
theorem d_Ari_runsExtended_243 : decode b_Ari_runsExtended 243 = .ok (.invokevirtual 31, 3) := by decide +kernel
theorem d_Ari_runsExtended_246 : decode b_Ari_runsExtended 246 = .ok (.istore 4, 2) := by decide +kernel
theorem d_Ari_runsExtended_248 : decode b_Ari_runsExtended 248 = .ok (.goto 58, 3) := by decide +kernel
theorem d_Ari_runsExtended_251 : decode b_Ari_runsExtended 251 = .ok (.iload_n 2, 1) := by decide +kernel
theorem d_Ari_runsExtended_252 : decode b_Ari_runsExtended 252 = .ok (.iload_n 3, 1) := by decide +kernel
theorem d_Ari_runsExtended_253 : decode b_Ari_runsExtended 253 = .ok (.imul, 1) := by decide +kernel
theorem d_Ari_runsExtended_254 : decode b_Ari_runsExtended 254 = .ok (.istore 4, 2) := by decide +kernel
theorem d_Ari_runsExtended_256 : decode b_Ari_runsExtended 256 = .ok (.goto 50, 3) := by decide +kernel
theorem d_Ari_runsExtended_259 : decode b_Ari_runsExtended 259 = .ok (.iload_n 2, 1) := by decide +kernel
theorem d_Ari_runsExtended_260 : decode b_Ari_runsExtended 260 = .ok (.iload_n 3, 1) := by decide +kernel
theorem d_Ari_runsExtended_261 : decode b_Ari_runsExtended 261 = .ok (.iadd, 1) := by decide +kernel
theorem d_Ari_runsExtended_262 : decode b_Ari_runsExtended 262 = .ok (.istore 4, 2) := by decide +kernel
theorem d_Ari_runsExtended_264 : decode b_Ari_runsExtended 264 = .ok (.goto 42, 3) := by decide +kernel
theorem d_Ari_runsExtended_267 : decode b_Ari_runsExtended 267 = .ok (.iload_n 3, 1) := by decide +kernel
theorem d_Ari_runsExtended_268 : decode b_Ari_runsExtended 268 = .ok (.ifCond .ne 7, 3) := by decide +kernel
theorem d_Ari_runsExtended_271 : decode b_Ari_runsExtended 271 = .ok (.iconst 0, 1) := by decide +kernel
theorem d_Ari_runsExtended_272 : decode b_Ari_runsExtended 272 = .ok (.goto 17, 3) := by decide +kernel
theorem d_Ari_runsExtended_275 : decode b_Ari_runsExtended 275 = .ok (.iload_n 2, 1) := by decide +kernel
theorem d_Ari_runsExtended_276 : decode b_Ari_runsExtended 276 = .ok (.i2l, 1) := by decide +kernel
theorem d_Ari_runsExtended_277 : decode b_Ari_runsExtended 277 = .ok (.ldc2_w 52, 3) := by decide +kernel
theorem d_Ari_runsExtended_280 : decode b_Ari_runsExtended 280 = .ok (.land, 1) := by decide +kernel
theorem d_Ari_runsExtended_281 : decode b_Ari_runsExtended 281 = .ok (.iload_n 3, 1) := by decide +kernel
theorem d_Ari_runsExtended_282 : decode b_Ari_runsExtended 282 = .ok (.i2l, 1) := by decide +kernel
theorem d_Ari_runsExtended_283 : decode b_Ari_runsExtended 283 = .ok (.ldc2_w 52, 3) := by decide +kernel
theorem d_Ari_runsExtended_286 : decode b_Ari_runsExtended 286 = .ok (.land, 1) := by decide +kernel
theorem d_Ari_runsExtended_287 : decode b_Ari_runsExtended 287 = .ok (.ldiv, 1) := by decide +kernel
theorem d_Ari_runsExtended_288 : decode b_Ari_runsExtended 288 = .ok (.l2i, 1) := by decide +kernel
theorem d_Ari_runsExtended_289 : decode b_Ari_runsExtended 289 = .ok (.istore 4, 2) := by decide +kernel
theorem d_Ari_runsExtended_291 : decode b_Ari_runsExtended 291 = .ok (.goto 15, 3) := by decide +kernel
theorem d_Ari_runsExtended_294 : decode b_Ari_runsExtended 294 = .ok (.iload_n 2, 1) := by decide +kernel
theorem d_Ari_runsExtended_295 : decode b_Ari_runsExtended 295 = .ok (.iload_n 3, 1) := by decide +kernel
theorem d_Ari_runsExtended_296 : decode b_Ari_runsExtended 296 = .ok (.invokestatic 58, 3) := by decide +kernel
theorem d_Ari_runsExtended_299 : decode b_Ari_runsExtended 299 = .ok (.istore 4, 2) := by decide +kernel
theorem d_Ari_runsExtended_301 : decode b_Ari_runsExtended 301 = .ok (.goto 5, 3) := by decide +kernel
theorem d_Ari_runsExtended_304 : decode b_Ari_runsExtended 304 = .ok (.iconst 0, 1) := by decide +kernel
theorem d_Ari_runsExtended_305 : decode b_Ari_runsExtended 305 = .ok (.ireturn, 1) := by decide +kernel
theorem d_Ari_runsExtended_306 : decode b_Ari_runsExtended 306 = .ok (.aload_n 0, 1) := by decide +kernel
theorem d_Ari_runsExtended_307 : decode b_Ari_runsExtended 307 = .ok (.getfield 7, 3) := by decide +kernel
theorem d_Ari_runsExtended_310 : decode b_Ari_runsExtended 310 = .ok (.aload_n 1, 1) := by decide +kernel
theorem d_Ari_runsExtended_311 : decode b_Ari_runsExtended 311 = .ok (.getfield 39, 3) := by decide +kernel
theorem d_Ari_runsExtended_314 : decode b_Ari_runsExtended 314 = .ok (.iload 4, 2) := by decide +kernel
theorem d_Ari_runsExtended_316 : decode b_Ari_runsExtended 316 = .ok (.aload_n 1, 1) := by decide +kernel
theorem d_Ari_runsExtended_317 : decode b_Ari_runsExtended 317 = .ok (.iconst 1, 1) := by decide +kernel
theorem d_Ari_runsExtended_318 : decode b_Ari_runsExtended 318 = .ok (.invokevirtual 62, 3) := by decide +kernel
theorem d_Ari_runsExtended_321 : decode b_Ari_runsExtended 321 = .ok (.invokevirtual 42, 3) := by decide +kernel
theorem d_Ari_runsExtended_324 : decode b_Ari_runsExtended 324 = .ok (.iconst 1, 1) := by decide +kernel
theorem d_Ari_runsExtended_325 : decode b_Ari_runsExtended 325 = .ok (.ireturn, 1) := by decide +kernel
def f_Ari_runsExtended (g : Nat → Int32) (sp : Nat → Int32) (iw : Int32) (id : Int32) (ia : Int32) (ib : Int32) (ii : Int32) : Int32 × (Nat → Int32) × (Nat → Int32) :=
  if ii = (8 : Int32) then
    let t2 := (f_Ari_sumWithCarry ((f_Sta_register ia g) ^^^ (-1 : Int32)) (f_Sta_register ib g) (1 : Int32) sp)
    let t3 := (f_Sta_keepResult id t2.1 (f_Ins_has (1 : Int32) iw) g t2.2)
    ((1 : Int32), t3.1, t3.2)
  else
    if ii = (10 : Int32) then
      let t5 := (f_Ari_sumWithCarry (f_Sta_register ia g) (f_Sta_register ib g) (0 : Int32) sp)
      let t6 := (f_Sta_keepResult id t5.1 (f_Ins_has (1 : Int32) iw) g t5.2)
      ((1 : Int32), t6.1, t6.2)
    else
      if ii = (11 : Int32) then
        let t8 := (f_Sta_keepResult id ((lush ((((f_Sta_register ia g).toInt64) &&& (4294967295 : Int64)) * (((f_Sta_register ib g).toInt64) &&& (4294967295 : Int64))) (32 : Int32)).toInt32) (f_Ins_has (1 : Int32) iw) g sp)
        ((1 : Int32), t8.1, t8.2)
      else
        if ii = (40 : Int32) then
          let t10 := (f_Sta_keepResult id ((f_Sta_register ib g) - (f_Sta_register ia g)) (f_Ins_has (1 : Int32) iw) g sp)
          ((1 : Int32), t10.1, t10.2)
        else
          if ii = (75 : Int32) then
            let t12 := (f_Sta_keepResult id ((lshr (((f_Sta_register ia g).toInt64) * ((f_Sta_register ib g).toInt64)) (32 : Int32)).toInt32) (f_Ins_has (1 : Int32) iw) g sp)
            ((1 : Int32), t12.1, t12.2)
          else
            if ii = (104 : Int32) then
              let t14 := (f_Sta_keepResult id (-(f_Sta_register ia g)) (f_Ins_has (1 : Int32) iw) g sp)
              ((1 : Int32), t14.1, t14.2)
            else
              if ii = (136 : Int32) then
                let t16 := (f_Ari_sumWithCarry ((f_Sta_register ia g) ^^^ (-1 : Int32)) (f_Sta_register ib g) (f_Sta_carry sp) sp)
                let t17 := (f_Sta_keepResult id t16.1 (f_Ins_has (1 : Int32) iw) g t16.2)
                ((1 : Int32), t17.1, t17.2)
              else
                if ii = (138 : Int32) then
                  let t19 := (f_Ari_sumWithCarry (f_Sta_register ia g) (f_Sta_register ib g) (f_Sta_carry sp) sp)
                  let t20 := (f_Sta_keepResult id t19.1 (f_Ins_has (1 : Int32) iw) g t19.2)
                  ((1 : Int32), t20.1, t20.2)
                else
                  if ii = (235 : Int32) then
                    let t22 := (f_Sta_keepResult id ((f_Sta_register ia g) * (f_Sta_register ib g)) (f_Ins_has (1 : Int32) iw) g sp)
                    ((1 : Int32), t22.1, t22.2)
                  else
                    if ii = (266 : Int32) then
                      let t24 := (f_Sta_keepResult id ((f_Sta_register ia g) + (f_Sta_register ib g)) (f_Ins_has (1 : Int32) iw) g sp)
                      ((1 : Int32), t24.1, t24.2)
                    else
                      if ii = (459 : Int32) then
                        if (f_Sta_register ib g) = (0 : Int32) then
                          let t31 := (f_Sta_keepResult id (0 : Int32) (f_Ins_has (1 : Int32) iw) g sp)
                          ((1 : Int32), t31.1, t31.2)
                        else
                          let t30 := (f_Sta_keepResult id (((((f_Sta_register ia g).toInt64) &&& (4294967295 : Int64)) / (((f_Sta_register ib g).toInt64) &&& (4294967295 : Int64))).toInt32) (f_Ins_has (1 : Int32) iw) g sp)
                          ((1 : Int32), t30.1, t30.2)
                      else
                        if ii = (491 : Int32) then
                          let t33 := (f_Sta_keepResult id (f_Ari_quotient (f_Sta_register ia g) (f_Sta_register ib g)) (f_Ins_has (1 : Int32) iw) g sp)
                          ((1 : Int32), t33.1, t33.2)
                        else
                          ((0 : Int32), g, sp)
set_option maxHeartbeats 4000000 in
set_option maxRecDepth 100000 in
theorem ib_Ari_runsExtended (g : Nat → Int32) (sp : Nat → Int32) (iw : Int32) (id : Int32) (ia : Int32) (ib : Int32) (ii : Int32) : isB (f_Ari_runsExtended g sp iw id ia ib ii).1 := by
  unfold f_Ari_runsExtended
  try dsimp only
  repeat' (first | refine ib_ite ?_ ?_ | refine ib_ite0 ?_ ?_ | with_reducible exact ib0 | with_reducible exact ib1 | with_reducible exact ib_Ins_has _ _ | (dsimp only; first | exact ib0 | exact ib1))
theorem nb_Ari_runsExtended (g : Nat → Int32) (sp : Nat → Int32) (iw : Int32) (id : Int32) (ia : Int32) (ib : Int32) (ii : Int32) : narrow .boolean (.int (f_Ari_runsExtended g sp iw id ia ib ii).1) = .int (f_Ari_runsExtended g sp iw id ia ib ii).1 := nb_of (ib_Ari_runsExtended g sp iw id ia ib ii)
set_option maxHeartbeats 4000000 in
set_option maxRecDepth 100000 in
theorem c_Ari_runsExtended (l : Launch) (D : va_G) (aS aG aX aI aR : Nat) (cG cX : ClassId) (g : Nat → Int32) (sp : Nat → Int32) (nx : Int32) (lt : Int32) (sm : Int32) (ex : Int32) (iw : Int32) (io : Int32) (id : Int32) (ia : Int32) (ib : Int32) (ii : Int32) (is : Int32) (iu : Int32) (_q0 : Nat) : kMi l y_Ari_runsExtended b_Ari_runsExtended 5 (some .boolean) 2 51 D kCl [(cG, .int), (cX, .int)] [.ref aR, .ref aI] [(aS, .inr (9, [.ref aG, .ref aX, .int nx, .int lt, .int sm, .int ex])), (aG, .inl (cG, 32, .inl g)), (aX, .inl (cX, 64, .inl sp)), (aI, .inr (5, [.int iw, .int io, .int id, .int ia, .int ib, .int ii, .int is, .int iu])), (aR, .inr (1, [.ref aS]))] (f_Ari_runsExtended g sp iw id ia ib ii).1 [(aS, .inr (9, [.ref aG, .ref aX, .int nx, .int lt, .int sm, .int ex])), (aG, .inl (cG, 32, .inl (f_Ari_runsExtended g sp iw id ia ib ii).2.1)), (aX, .inl (cX, 64, .inl (f_Ari_runsExtended g sp iw id ia ib ii).2.2)), (aI, .inr (5, [.int iw, .int io, .int id, .int ia, .int ib, .int ii, .int is, .int iu])), (aR, .inr (1, [.ref aS]))] := by
  refine k_entry (Qc := fun A => kQi D kCl [(cG, .int), (cX, .int)] (f_Ari_runsExtended g sp iw id ia ib ii).1 [(aS, .inr (9, [.ref aG, .ref aX, .int nx, .int lt, .int sm, .int ex])), (aG, .inl (cG, 32, .inl (f_Ari_runsExtended g sp iw id ia ib ii).2.1)), (aX, .inl (cX, 64, .inl (f_Ari_runsExtended g sp iw id ia ib ii).2.2)), (aI, .inr (5, [.int iw, .int io, .int id, .int ia, .int ib, .int ii, .int is, .int iu])), (aR, .inr (1, [.ref aS]))] A) (lv := [(0, .ref aR), (1, .ref aI)]) (by decide) (Nat.le_of_ble_eq_true rfl) rfl ?_
  intro p e s m below meth c A ls hx hb hr hml hB hown hlocks hin hA hK hN hP hD hS hl
  have hown : s.vm.findClass "MappedProcessor$Arithmetic" = some m.cls := hown
  refine lv_aload_n hx hb d_Ari_runsExtended_0 rfl (lv_at hl 0 rfl) ?_
  refine va_get (D := D) (ci := 1) (v := .ref aS) (C := "MappedProcessor$Arithmetic") (T := T_Ari) (N := 1) hx hb hB iw_Ari hown hK hP 4 rfl rfl 0 (by decide) (hB _ mw_159) (fun _ h9 => h9) rfl d_Ari_runsExtended_1 ?_
  refine lv_aload_n hx hb d_Ari_runsExtended_4 rfl (lv_at hl 1 rfl) ?_
  refine va_get (D := D) (ci := 5) (v := .int ia) (C := "MappedProcessor$Instruction") (T := T_Ins) (N := 8) hx hb hB iw_Ins hown hK hP 3 rfl rfl 3 (by decide) (hB _ mw_98) (fun _ h9 => h9) rfl d_Ari_runsExtended_5 ?_
  refine k_cVi (As := [.int ia]) (rest := []) (wr := [(aI, .inr (5, [.int iw, .int io, .int id, .int ia, .int ib, .int ii, .int is, .int iu])), (aR, .inr (1, [.ref aS]))]) (wj := [(aS, .inr (9, [.ref aG, .ref aX, .int nx, .int lt, .int sm, .int ex])), (aG, .inl (cG, 32, .inl g)), (aX, .inl (cX, 64, .inl sp)), (aI, .inr (5, [.int iw, .int io, .int id, .int ia, .int ib, .int ii, .int is, .int iu])), (aR, .inr (1, [.ref aS]))]) ⟨hx, hb, hml, hown, hB⟩ (c_Sta_register l D aS aG aX cG cX g sp nx lt sm ex ia) yl_Sta_register mw_401 hK hN hP hD hS hA [0, 1] [0, 1, 2] [3, 4] [2, 3, 4, 0, 1] rfl rfl rfl rfl (by decide +kernel) 0 rfl rfl rfl rfl hl.1 rfl (Nat.le_of_ble_eq_true rfl) ⟨Nat.le_of_ble_eq_true rfl, Nat.le_of_ble_eq_true rfl⟩ d_Ari_runsExtended_8 ⟨Nat.le_of_ble_eq_true rfl, Nat.le_of_ble_eq_true rfl⟩ (fun H locs hP hD hS => ?_)
  refine lv_istore_n (lv' := [(2, .int (f_Sta_register ia g)), (0, .ref aR), (1, .ref aI)]) hx hb d_Ari_runsExtended_11 rfl hl (by decide) rfl (fun ls hl => ?_)
  refine lv_aload_n hx hb d_Ari_runsExtended_12 rfl (lv_at hl 1 rfl) ?_
  refine va_get (D := D) (ci := 1) (v := .ref aS) (C := "MappedProcessor$Arithmetic") (T := T_Ari) (N := 1) hx hb hB iw_Ari hown hK hP 4 rfl rfl 0 (by decide) (hB _ mw_159) (fun _ h9 => h9) rfl d_Ari_runsExtended_13 ?_
  refine lv_aload_n hx hb d_Ari_runsExtended_16 rfl (lv_at hl 2 rfl) ?_
  refine va_get (D := D) (ci := 5) (v := .int ib) (C := "MappedProcessor$Instruction") (T := T_Ins) (N := 8) hx hb hB iw_Ins hown hK hP 3 rfl rfl 4 (by decide) (hB _ mw_107) (fun _ h9 => h9) rfl d_Ari_runsExtended_17 ?_
  refine k_cVi (As := [.int ib]) (rest := []) (wr := [(aI, .inr (5, [.int iw, .int io, .int id, .int ia, .int ib, .int ii, .int is, .int iu])), (aR, .inr (1, [.ref aS]))]) (wj := [(aS, .inr (9, [.ref aG, .ref aX, .int nx, .int lt, .int sm, .int ex])), (aG, .inl (cG, 32, .inl g)), (aX, .inl (cX, 64, .inl sp)), (aI, .inr (5, [.int iw, .int io, .int id, .int ia, .int ib, .int ii, .int is, .int iu])), (aR, .inr (1, [.ref aS]))]) ⟨hx, hb, hml, hown, hB⟩ (c_Sta_register l D aS aG aX cG cX g sp nx lt sm ex ib) yl_Sta_register mw_401 hK hN hP hD hS hA [0, 1] [0, 1, 2] [3, 4] [2, 3, 4, 0, 1] rfl rfl rfl rfl (by decide +kernel) 0 rfl rfl rfl rfl hl.1 rfl (Nat.le_of_ble_eq_true rfl) ⟨Nat.le_of_ble_eq_true rfl, Nat.le_of_ble_eq_true rfl⟩ d_Ari_runsExtended_20 ⟨Nat.le_of_ble_eq_true rfl, Nat.le_of_ble_eq_true rfl⟩ (fun H locs hP hD hS => ?_)
  refine lv_istore_n (lv' := [(3, .int (f_Sta_register ib g)), (2, .int (f_Sta_register ia g)), (0, .ref aR), (1, .ref aI)]) hx hb d_Ari_runsExtended_23 rfl hl (by decide) rfl (fun ls hl => ?_)
  refine lv_aload_n hx hb d_Ari_runsExtended_24 rfl (lv_at hl 3 rfl) ?_
  refine va_get (D := D) (ci := 5) (v := .int ii) (C := "MappedProcessor$Instruction") (T := T_Ins) (N := 8) hx hb hB iw_Ins hown hK hP 3 rfl rfl 5 (by decide) (hB _ mw_116) (fun _ h9 => h9) rfl d_Ari_runsExtended_25 ?_
  by_cases h1 : ii = (8 : Int32)
  · refine lv_lookup (off := 108) (tgt := 136) hx hb d_Ari_runsExtended_28 (by decide) (by have hq9 := h1 <;> rw [hq9] <;> rfl) (by decide) ?_
    refine lv_aload_n hx hb d_Ari_runsExtended_136 rfl (lv_at hl 2 rfl) ?_
    refine lv_iload_n hx hb d_Ari_runsExtended_137 rfl (lv_at hl 1 rfl) ?_
    refine lv_iconst (v := (-1 : Int32)) hx hb d_Ari_runsExtended_138 (by decide) ?_
    refine lv_ixor hx hb d_Ari_runsExtended_139 ?_
    refine lv_iload_n hx hb d_Ari_runsExtended_140 rfl (lv_at hl 0 rfl) ?_
    refine lv_iconst (v := (1 : Int32)) hx hb d_Ari_runsExtended_141 (by decide) ?_
    let t2 := (f_Ari_sumWithCarry ((f_Sta_register ia g) ^^^ (-1 : Int32)) (f_Sta_register ib g) (1 : Int32) sp)
    refine k_cVi (As := [.int ((f_Sta_register ia g) ^^^ (-1 : Int32)), .int (f_Sta_register ib g), .int (1 : Int32)]) (rest := []) (wr := [(aI, .inr (5, [.int iw, .int io, .int id, .int ia, .int ib, .int ii, .int is, .int iu]))]) (wj := [(aS, .inr (9, [.ref aG, .ref aX, .int nx, .int lt, .int sm, .int ex])), (aG, .inl (cG, 32, .inl g)), (aX, .inl (cX, 64, .inl t2.2)), (aI, .inr (5, [.int iw, .int io, .int id, .int ia, .int ib, .int ii, .int is, .int iu])), (aR, .inr (1, [.ref aS]))]) ⟨hx, hb, hml, hown, hB⟩ (c_Ari_sumWithCarry l D aS aG aX aR cG cX g sp nx lt sm ex ((f_Sta_register ia g) ^^^ (-1 : Int32)) (f_Sta_register ib g) (1 : Int32)) yl_Ari_sumWithCarry mw_402 hK hN hP hD hS hA [0, 1] [0, 1, 2, 4] [3] [1, 2, 3, 0, 4] rfl rfl rfl rfl (by decide +kernel) 3 rfl rfl rfl rfl hl.1 rfl (Nat.le_of_ble_eq_true rfl) ⟨Nat.le_of_ble_eq_true rfl, Nat.le_of_ble_eq_true rfl⟩ d_Ari_runsExtended_142 ⟨Nat.le_of_ble_eq_true rfl, Nat.le_of_ble_eq_true rfl⟩ (fun H locs hP hD hS => ?_)
    refine lv_istore (lv' := [(4, .int t2.1), (3, .int (f_Sta_register ib g)), (2, .int (f_Sta_register ia g)), (0, .ref aR), (1, .ref aI)]) hx hb d_Ari_runsExtended_145 hl (by decide) rfl (fun ls hl => ?_)
    refine lv_goto (tgt := 306) hx hb d_Ari_runsExtended_147 (by decide) ?_
    refine lv_aload_n hx hb d_Ari_runsExtended_306 rfl (lv_at hl 3 rfl) ?_
    refine va_get (D := D) (ci := 1) (v := .ref aS) (C := "MappedProcessor$Arithmetic") (T := T_Ari) (N := 1) hx hb hB iw_Ari hown hK hP 4 rfl rfl 0 (by decide) (hB _ mw_159) (fun _ h9 => h9) rfl d_Ari_runsExtended_307 ?_
    refine lv_aload_n hx hb d_Ari_runsExtended_310 rfl (lv_at hl 4 rfl) ?_
    refine va_get (D := D) (ci := 5) (v := .int id) (C := "MappedProcessor$Instruction") (T := T_Ins) (N := 8) hx hb hB iw_Ins hown hK hP 3 rfl rfl 2 (by decide) (hB _ mw_96) (fun _ h9 => h9) rfl d_Ari_runsExtended_311 ?_
    refine lv_iload hx hb d_Ari_runsExtended_314 (lv_at hl 0 rfl) ?_
    refine lv_aload_n hx hb d_Ari_runsExtended_316 rfl (lv_at hl 4 rfl) ?_
    refine lv_iconst (v := (1 : Int32)) hx hb d_Ari_runsExtended_317 (by decide) ?_
    refine k_cVi (As := [.int (1 : Int32)]) (rest := [.int t2.1, .int id, .ref aS]) (wr := [(aS, .inr (9, [.ref aG, .ref aX, .int nx, .int lt, .int sm, .int ex])), (aG, .inl (cG, 32, .inl g)), (aX, .inl (cX, 64, .inl t2.2)), (aR, .inr (1, [.ref aS]))]) (wj := [(aS, .inr (9, [.ref aG, .ref aX, .int nx, .int lt, .int sm, .int ex])), (aG, .inl (cG, 32, .inl g)), (aX, .inl (cX, 64, .inl t2.2)), (aI, .inr (5, [.int iw, .int io, .int id, .int ia, .int ib, .int ii, .int is, .int iu])), (aR, .inr (1, [.ref aS]))]) ⟨hx, hb, hml, hown, hB⟩ (c_Ins_has l D aI iw io id ia ib ii is iu (1 : Int32)) yl_Ins_has mw_512 hK hN hP hD hS hA [] [3] [0, 1, 2, 4] [0, 1, 2, 4, 3] rfl rfl rfl rfl (by decide +kernel) 0 rfl rfl rfl rfl hl.1 rfl (Nat.le_of_ble_eq_true rfl) ⟨Nat.le_of_ble_eq_true rfl, Nat.le_of_ble_eq_true rfl⟩ d_Ari_runsExtended_318 ⟨Nat.le_of_ble_eq_true rfl, Nat.le_of_ble_eq_true rfl⟩ (fun H locs hP hD hS => ?_)
    let t3 := (f_Sta_keepResult id t2.1 (f_Ins_has (1 : Int32) iw) g t2.2)
    refine k_cVv (As := [.int id, .int t2.1, .int (f_Ins_has (1 : Int32) iw)]) (rest := []) (wr := [(aI, .inr (5, [.int iw, .int io, .int id, .int ia, .int ib, .int ii, .int is, .int iu])), (aR, .inr (1, [.ref aS]))]) (wj := [(aS, .inr (9, [.ref aG, .ref aX, .int nx, .int lt, .int sm, .int ex])), (aG, .inl (cG, 32, .inl t3.1)), (aX, .inl (cX, 64, .inl t3.2)), (aI, .inr (5, [.int iw, .int io, .int id, .int ia, .int ib, .int ii, .int is, .int iu])), (aR, .inr (1, [.ref aS]))]) ⟨hx, hb, hml, hown, hB⟩ (c_Sta_keepResult l D aS aG aX cG cX g t2.2 nx lt sm ex id t2.1 (f_Ins_has (1 : Int32) iw)) yl_Sta_keepResult mw_419 hK hN hP hD hS hA [0, 1] [0, 1, 2] [3, 4] [2, 3, 4, 0, 1] rfl rfl rfl rfl (by decide +kernel) 0 rfl rfl rfl rfl hl.1 rfl (Nat.le_of_ble_eq_true rfl) ⟨Nat.le_of_ble_eq_true rfl, Nat.le_of_ble_eq_true rfl⟩ d_Ari_runsExtended_321 ⟨Nat.le_of_ble_eq_true rfl, Nat.le_of_ble_eq_true rfl⟩ (fun H locs hP hD hS => ?_)
    refine lv_iconst (v := (1 : Int32)) hx hb d_Ari_runsExtended_324 (by decide) ?_
    have ef : f_Ari_runsExtended g sp iw id ia ib ii = ((1 : Int32), t3.1, t3.2) := by unfold f_Ari_runsExtended; try dsimp only; rw [if_pos h1]
    exact k_zret hx hb hr hlocks hK hP hD hS [0, 1, 2, 3, 4] rfl (by rw [ef] <;> rfl) (by rw [ef] <;> rfl) nb1 d_Ari_runsExtended_325
  · by_cases h4 : ii = (10 : Int32)
    · refine lv_lookup (off := 122) (tgt := 150) hx hb d_Ari_runsExtended_28 (by decide) (by have hq9 := h4 <;> rw [hq9] <;> rfl) (by decide) ?_
      refine lv_aload_n hx hb d_Ari_runsExtended_150 rfl (lv_at hl 2 rfl) ?_
      refine lv_iload_n hx hb d_Ari_runsExtended_151 rfl (lv_at hl 1 rfl) ?_
      refine lv_iload_n hx hb d_Ari_runsExtended_152 rfl (lv_at hl 0 rfl) ?_
      refine lv_iconst (v := (0 : Int32)) hx hb d_Ari_runsExtended_153 (by decide) ?_
      let t5 := (f_Ari_sumWithCarry (f_Sta_register ia g) (f_Sta_register ib g) (0 : Int32) sp)
      refine k_cVi (As := [.int (f_Sta_register ia g), .int (f_Sta_register ib g), .int (0 : Int32)]) (rest := []) (wr := [(aI, .inr (5, [.int iw, .int io, .int id, .int ia, .int ib, .int ii, .int is, .int iu]))]) (wj := [(aS, .inr (9, [.ref aG, .ref aX, .int nx, .int lt, .int sm, .int ex])), (aG, .inl (cG, 32, .inl g)), (aX, .inl (cX, 64, .inl t5.2)), (aI, .inr (5, [.int iw, .int io, .int id, .int ia, .int ib, .int ii, .int is, .int iu])), (aR, .inr (1, [.ref aS]))]) ⟨hx, hb, hml, hown, hB⟩ (c_Ari_sumWithCarry l D aS aG aX aR cG cX g sp nx lt sm ex (f_Sta_register ia g) (f_Sta_register ib g) (0 : Int32)) yl_Ari_sumWithCarry mw_402 hK hN hP hD hS hA [0, 1] [0, 1, 2, 4] [3] [1, 2, 3, 0, 4] rfl rfl rfl rfl (by decide +kernel) 3 rfl rfl rfl rfl hl.1 rfl (Nat.le_of_ble_eq_true rfl) ⟨Nat.le_of_ble_eq_true rfl, Nat.le_of_ble_eq_true rfl⟩ d_Ari_runsExtended_154 ⟨Nat.le_of_ble_eq_true rfl, Nat.le_of_ble_eq_true rfl⟩ (fun H locs hP hD hS => ?_)
      refine lv_istore (lv' := [(4, .int t5.1), (3, .int (f_Sta_register ib g)), (2, .int (f_Sta_register ia g)), (0, .ref aR), (1, .ref aI)]) hx hb d_Ari_runsExtended_157 hl (by decide) rfl (fun ls hl => ?_)
      refine lv_goto (tgt := 306) hx hb d_Ari_runsExtended_159 (by decide) ?_
      refine lv_aload_n hx hb d_Ari_runsExtended_306 rfl (lv_at hl 3 rfl) ?_
      refine va_get (D := D) (ci := 1) (v := .ref aS) (C := "MappedProcessor$Arithmetic") (T := T_Ari) (N := 1) hx hb hB iw_Ari hown hK hP 4 rfl rfl 0 (by decide) (hB _ mw_159) (fun _ h9 => h9) rfl d_Ari_runsExtended_307 ?_
      refine lv_aload_n hx hb d_Ari_runsExtended_310 rfl (lv_at hl 4 rfl) ?_
      refine va_get (D := D) (ci := 5) (v := .int id) (C := "MappedProcessor$Instruction") (T := T_Ins) (N := 8) hx hb hB iw_Ins hown hK hP 3 rfl rfl 2 (by decide) (hB _ mw_96) (fun _ h9 => h9) rfl d_Ari_runsExtended_311 ?_
      refine lv_iload hx hb d_Ari_runsExtended_314 (lv_at hl 0 rfl) ?_
      refine lv_aload_n hx hb d_Ari_runsExtended_316 rfl (lv_at hl 4 rfl) ?_
      refine lv_iconst (v := (1 : Int32)) hx hb d_Ari_runsExtended_317 (by decide) ?_
      refine k_cVi (As := [.int (1 : Int32)]) (rest := [.int t5.1, .int id, .ref aS]) (wr := [(aS, .inr (9, [.ref aG, .ref aX, .int nx, .int lt, .int sm, .int ex])), (aG, .inl (cG, 32, .inl g)), (aX, .inl (cX, 64, .inl t5.2)), (aR, .inr (1, [.ref aS]))]) (wj := [(aS, .inr (9, [.ref aG, .ref aX, .int nx, .int lt, .int sm, .int ex])), (aG, .inl (cG, 32, .inl g)), (aX, .inl (cX, 64, .inl t5.2)), (aI, .inr (5, [.int iw, .int io, .int id, .int ia, .int ib, .int ii, .int is, .int iu])), (aR, .inr (1, [.ref aS]))]) ⟨hx, hb, hml, hown, hB⟩ (c_Ins_has l D aI iw io id ia ib ii is iu (1 : Int32)) yl_Ins_has mw_512 hK hN hP hD hS hA [] [3] [0, 1, 2, 4] [0, 1, 2, 4, 3] rfl rfl rfl rfl (by decide +kernel) 0 rfl rfl rfl rfl hl.1 rfl (Nat.le_of_ble_eq_true rfl) ⟨Nat.le_of_ble_eq_true rfl, Nat.le_of_ble_eq_true rfl⟩ d_Ari_runsExtended_318 ⟨Nat.le_of_ble_eq_true rfl, Nat.le_of_ble_eq_true rfl⟩ (fun H locs hP hD hS => ?_)
      let t6 := (f_Sta_keepResult id t5.1 (f_Ins_has (1 : Int32) iw) g t5.2)
      refine k_cVv (As := [.int id, .int t5.1, .int (f_Ins_has (1 : Int32) iw)]) (rest := []) (wr := [(aI, .inr (5, [.int iw, .int io, .int id, .int ia, .int ib, .int ii, .int is, .int iu])), (aR, .inr (1, [.ref aS]))]) (wj := [(aS, .inr (9, [.ref aG, .ref aX, .int nx, .int lt, .int sm, .int ex])), (aG, .inl (cG, 32, .inl t6.1)), (aX, .inl (cX, 64, .inl t6.2)), (aI, .inr (5, [.int iw, .int io, .int id, .int ia, .int ib, .int ii, .int is, .int iu])), (aR, .inr (1, [.ref aS]))]) ⟨hx, hb, hml, hown, hB⟩ (c_Sta_keepResult l D aS aG aX cG cX g t5.2 nx lt sm ex id t5.1 (f_Ins_has (1 : Int32) iw)) yl_Sta_keepResult mw_419 hK hN hP hD hS hA [0, 1] [0, 1, 2] [3, 4] [2, 3, 4, 0, 1] rfl rfl rfl rfl (by decide +kernel) 0 rfl rfl rfl rfl hl.1 rfl (Nat.le_of_ble_eq_true rfl) ⟨Nat.le_of_ble_eq_true rfl, Nat.le_of_ble_eq_true rfl⟩ d_Ari_runsExtended_321 ⟨Nat.le_of_ble_eq_true rfl, Nat.le_of_ble_eq_true rfl⟩ (fun H locs hP hD hS => ?_)
      refine lv_iconst (v := (1 : Int32)) hx hb d_Ari_runsExtended_324 (by decide) ?_
      have ef : f_Ari_runsExtended g sp iw id ia ib ii = ((1 : Int32), t6.1, t6.2) := by unfold f_Ari_runsExtended; try dsimp only; rw [if_neg h1, if_pos h4]
      exact k_zret hx hb hr hlocks hK hP hD hS [0, 1, 2, 3, 4] rfl (by rw [ef] <;> rfl) (by rw [ef] <;> rfl) nb1 d_Ari_runsExtended_325
    · by_cases h7 : ii = (11 : Int32)
      · refine lv_lookup (off := 134) (tgt := 162) hx hb d_Ari_runsExtended_28 (by decide) (by have hq9 := h7 <;> rw [hq9] <;> rfl) (by decide) ?_
        refine lv_iload_n hx hb d_Ari_runsExtended_162 rfl (lv_at hl 1 rfl) ?_
        refine lv_i2l (v := ((f_Sta_register ia g).toInt64)) hx hb d_Ari_runsExtended_163 rfl ?_
        refine lv_ldc2 (v := (4294967295 : Int64)) hx hb hown (hB _ mw_406) d_Ari_runsExtended_164 ?_
        refine lv_land hx hb d_Ari_runsExtended_167 ?_
        refine lv_iload_n hx hb d_Ari_runsExtended_168 rfl (lv_at hl 0 rfl) ?_
        refine lv_i2l (v := ((f_Sta_register ib g).toInt64)) hx hb d_Ari_runsExtended_169 rfl ?_
        refine lv_ldc2 (v := (4294967295 : Int64)) hx hb hown (hB _ mw_406) d_Ari_runsExtended_170 ?_
        refine lv_land hx hb d_Ari_runsExtended_173 ?_
        refine lv_lmul hx hb d_Ari_runsExtended_174 ?_
        refine lv_bipush (v := (32 : Int32)) hx hb d_Ari_runsExtended_175 (by decide) ?_
        refine lv_lushr (v := (lush ((((f_Sta_register ia g).toInt64) &&& (4294967295 : Int64)) * (((f_Sta_register ib g).toInt64) &&& (4294967295 : Int64))) (32 : Int32))) hx hb d_Ari_runsExtended_177 rfl ?_
        refine lv_l2i (v := ((lush ((((f_Sta_register ia g).toInt64) &&& (4294967295 : Int64)) * (((f_Sta_register ib g).toInt64) &&& (4294967295 : Int64))) (32 : Int32)).toInt32)) hx hb d_Ari_runsExtended_178 rfl ?_
        refine lv_istore (lv' := [(4, .int ((lush ((((f_Sta_register ia g).toInt64) &&& (4294967295 : Int64)) * (((f_Sta_register ib g).toInt64) &&& (4294967295 : Int64))) (32 : Int32)).toInt32)), (3, .int (f_Sta_register ib g)), (2, .int (f_Sta_register ia g)), (0, .ref aR), (1, .ref aI)]) hx hb d_Ari_runsExtended_179 hl (by decide) rfl (fun ls hl => ?_)
        refine lv_goto (tgt := 306) hx hb d_Ari_runsExtended_181 (by decide) ?_
        refine lv_aload_n hx hb d_Ari_runsExtended_306 rfl (lv_at hl 3 rfl) ?_
        refine va_get (D := D) (ci := 1) (v := .ref aS) (C := "MappedProcessor$Arithmetic") (T := T_Ari) (N := 1) hx hb hB iw_Ari hown hK hP 4 rfl rfl 0 (by decide) (hB _ mw_159) (fun _ h9 => h9) rfl d_Ari_runsExtended_307 ?_
        refine lv_aload_n hx hb d_Ari_runsExtended_310 rfl (lv_at hl 4 rfl) ?_
        refine va_get (D := D) (ci := 5) (v := .int id) (C := "MappedProcessor$Instruction") (T := T_Ins) (N := 8) hx hb hB iw_Ins hown hK hP 3 rfl rfl 2 (by decide) (hB _ mw_96) (fun _ h9 => h9) rfl d_Ari_runsExtended_311 ?_
        refine lv_iload hx hb d_Ari_runsExtended_314 (lv_at hl 0 rfl) ?_
        refine lv_aload_n hx hb d_Ari_runsExtended_316 rfl (lv_at hl 4 rfl) ?_
        refine lv_iconst (v := (1 : Int32)) hx hb d_Ari_runsExtended_317 (by decide) ?_
        refine k_cVi (As := [.int (1 : Int32)]) (rest := [.int ((lush ((((f_Sta_register ia g).toInt64) &&& (4294967295 : Int64)) * (((f_Sta_register ib g).toInt64) &&& (4294967295 : Int64))) (32 : Int32)).toInt32), .int id, .ref aS]) (wr := [(aS, .inr (9, [.ref aG, .ref aX, .int nx, .int lt, .int sm, .int ex])), (aG, .inl (cG, 32, .inl g)), (aX, .inl (cX, 64, .inl sp)), (aR, .inr (1, [.ref aS]))]) (wj := [(aS, .inr (9, [.ref aG, .ref aX, .int nx, .int lt, .int sm, .int ex])), (aG, .inl (cG, 32, .inl g)), (aX, .inl (cX, 64, .inl sp)), (aI, .inr (5, [.int iw, .int io, .int id, .int ia, .int ib, .int ii, .int is, .int iu])), (aR, .inr (1, [.ref aS]))]) ⟨hx, hb, hml, hown, hB⟩ (c_Ins_has l D aI iw io id ia ib ii is iu (1 : Int32)) yl_Ins_has mw_512 hK hN hP hD hS hA [] [3] [0, 1, 2, 4] [0, 1, 2, 4, 3] rfl rfl rfl rfl (by decide +kernel) 0 rfl rfl rfl rfl hl.1 rfl (Nat.le_of_ble_eq_true rfl) ⟨Nat.le_of_ble_eq_true rfl, Nat.le_of_ble_eq_true rfl⟩ d_Ari_runsExtended_318 ⟨Nat.le_of_ble_eq_true rfl, Nat.le_of_ble_eq_true rfl⟩ (fun H locs hP hD hS => ?_)
        let t8 := (f_Sta_keepResult id ((lush ((((f_Sta_register ia g).toInt64) &&& (4294967295 : Int64)) * (((f_Sta_register ib g).toInt64) &&& (4294967295 : Int64))) (32 : Int32)).toInt32) (f_Ins_has (1 : Int32) iw) g sp)
        refine k_cVv (As := [.int id, .int ((lush ((((f_Sta_register ia g).toInt64) &&& (4294967295 : Int64)) * (((f_Sta_register ib g).toInt64) &&& (4294967295 : Int64))) (32 : Int32)).toInt32), .int (f_Ins_has (1 : Int32) iw)]) (rest := []) (wr := [(aI, .inr (5, [.int iw, .int io, .int id, .int ia, .int ib, .int ii, .int is, .int iu])), (aR, .inr (1, [.ref aS]))]) (wj := [(aS, .inr (9, [.ref aG, .ref aX, .int nx, .int lt, .int sm, .int ex])), (aG, .inl (cG, 32, .inl t8.1)), (aX, .inl (cX, 64, .inl t8.2)), (aI, .inr (5, [.int iw, .int io, .int id, .int ia, .int ib, .int ii, .int is, .int iu])), (aR, .inr (1, [.ref aS]))]) ⟨hx, hb, hml, hown, hB⟩ (c_Sta_keepResult l D aS aG aX cG cX g sp nx lt sm ex id ((lush ((((f_Sta_register ia g).toInt64) &&& (4294967295 : Int64)) * (((f_Sta_register ib g).toInt64) &&& (4294967295 : Int64))) (32 : Int32)).toInt32) (f_Ins_has (1 : Int32) iw)) yl_Sta_keepResult mw_419 hK hN hP hD hS hA [0, 1] [0, 1, 2] [3, 4] [2, 3, 4, 0, 1] rfl rfl rfl rfl (by decide +kernel) 0 rfl rfl rfl rfl hl.1 rfl (Nat.le_of_ble_eq_true rfl) ⟨Nat.le_of_ble_eq_true rfl, Nat.le_of_ble_eq_true rfl⟩ d_Ari_runsExtended_321 ⟨Nat.le_of_ble_eq_true rfl, Nat.le_of_ble_eq_true rfl⟩ (fun H locs hP hD hS => ?_)
        refine lv_iconst (v := (1 : Int32)) hx hb d_Ari_runsExtended_324 (by decide) ?_
        have ef : f_Ari_runsExtended g sp iw id ia ib ii = ((1 : Int32), t8.1, t8.2) := by unfold f_Ari_runsExtended; try dsimp only; rw [if_neg h1, if_neg h4, if_pos h7]
        exact k_zret hx hb hr hlocks hK hP hD hS [0, 1, 2, 3, 4] rfl (by rw [ef] <;> rfl) (by rw [ef] <;> rfl) nb1 d_Ari_runsExtended_325
      · by_cases h9 : ii = (40 : Int32)
        · refine lv_lookup (off := 156) (tgt := 184) hx hb d_Ari_runsExtended_28 (by decide) (by have hq9 := h9 <;> rw [hq9] <;> rfl) (by decide) ?_
          refine lv_iload_n hx hb d_Ari_runsExtended_184 rfl (lv_at hl 0 rfl) ?_
          refine lv_iload_n hx hb d_Ari_runsExtended_185 rfl (lv_at hl 1 rfl) ?_
          refine lv_isub hx hb d_Ari_runsExtended_186 ?_
          refine lv_istore (lv' := [(4, .int ((f_Sta_register ib g) - (f_Sta_register ia g))), (3, .int (f_Sta_register ib g)), (2, .int (f_Sta_register ia g)), (0, .ref aR), (1, .ref aI)]) hx hb d_Ari_runsExtended_187 hl (by decide) rfl (fun ls hl => ?_)
          refine lv_goto (tgt := 306) hx hb d_Ari_runsExtended_189 (by decide) ?_
          refine lv_aload_n hx hb d_Ari_runsExtended_306 rfl (lv_at hl 3 rfl) ?_
          refine va_get (D := D) (ci := 1) (v := .ref aS) (C := "MappedProcessor$Arithmetic") (T := T_Ari) (N := 1) hx hb hB iw_Ari hown hK hP 4 rfl rfl 0 (by decide) (hB _ mw_159) (fun _ h9 => h9) rfl d_Ari_runsExtended_307 ?_
          refine lv_aload_n hx hb d_Ari_runsExtended_310 rfl (lv_at hl 4 rfl) ?_
          refine va_get (D := D) (ci := 5) (v := .int id) (C := "MappedProcessor$Instruction") (T := T_Ins) (N := 8) hx hb hB iw_Ins hown hK hP 3 rfl rfl 2 (by decide) (hB _ mw_96) (fun _ h9 => h9) rfl d_Ari_runsExtended_311 ?_
          refine lv_iload hx hb d_Ari_runsExtended_314 (lv_at hl 0 rfl) ?_
          refine lv_aload_n hx hb d_Ari_runsExtended_316 rfl (lv_at hl 4 rfl) ?_
          refine lv_iconst (v := (1 : Int32)) hx hb d_Ari_runsExtended_317 (by decide) ?_
          refine k_cVi (As := [.int (1 : Int32)]) (rest := [.int ((f_Sta_register ib g) - (f_Sta_register ia g)), .int id, .ref aS]) (wr := [(aS, .inr (9, [.ref aG, .ref aX, .int nx, .int lt, .int sm, .int ex])), (aG, .inl (cG, 32, .inl g)), (aX, .inl (cX, 64, .inl sp)), (aR, .inr (1, [.ref aS]))]) (wj := [(aS, .inr (9, [.ref aG, .ref aX, .int nx, .int lt, .int sm, .int ex])), (aG, .inl (cG, 32, .inl g)), (aX, .inl (cX, 64, .inl sp)), (aI, .inr (5, [.int iw, .int io, .int id, .int ia, .int ib, .int ii, .int is, .int iu])), (aR, .inr (1, [.ref aS]))]) ⟨hx, hb, hml, hown, hB⟩ (c_Ins_has l D aI iw io id ia ib ii is iu (1 : Int32)) yl_Ins_has mw_512 hK hN hP hD hS hA [] [3] [0, 1, 2, 4] [0, 1, 2, 4, 3] rfl rfl rfl rfl (by decide +kernel) 0 rfl rfl rfl rfl hl.1 rfl (Nat.le_of_ble_eq_true rfl) ⟨Nat.le_of_ble_eq_true rfl, Nat.le_of_ble_eq_true rfl⟩ d_Ari_runsExtended_318 ⟨Nat.le_of_ble_eq_true rfl, Nat.le_of_ble_eq_true rfl⟩ (fun H locs hP hD hS => ?_)
          let t10 := (f_Sta_keepResult id ((f_Sta_register ib g) - (f_Sta_register ia g)) (f_Ins_has (1 : Int32) iw) g sp)
          refine k_cVv (As := [.int id, .int ((f_Sta_register ib g) - (f_Sta_register ia g)), .int (f_Ins_has (1 : Int32) iw)]) (rest := []) (wr := [(aI, .inr (5, [.int iw, .int io, .int id, .int ia, .int ib, .int ii, .int is, .int iu])), (aR, .inr (1, [.ref aS]))]) (wj := [(aS, .inr (9, [.ref aG, .ref aX, .int nx, .int lt, .int sm, .int ex])), (aG, .inl (cG, 32, .inl t10.1)), (aX, .inl (cX, 64, .inl t10.2)), (aI, .inr (5, [.int iw, .int io, .int id, .int ia, .int ib, .int ii, .int is, .int iu])), (aR, .inr (1, [.ref aS]))]) ⟨hx, hb, hml, hown, hB⟩ (c_Sta_keepResult l D aS aG aX cG cX g sp nx lt sm ex id ((f_Sta_register ib g) - (f_Sta_register ia g)) (f_Ins_has (1 : Int32) iw)) yl_Sta_keepResult mw_419 hK hN hP hD hS hA [0, 1] [0, 1, 2] [3, 4] [2, 3, 4, 0, 1] rfl rfl rfl rfl (by decide +kernel) 0 rfl rfl rfl rfl hl.1 rfl (Nat.le_of_ble_eq_true rfl) ⟨Nat.le_of_ble_eq_true rfl, Nat.le_of_ble_eq_true rfl⟩ d_Ari_runsExtended_321 ⟨Nat.le_of_ble_eq_true rfl, Nat.le_of_ble_eq_true rfl⟩ (fun H locs hP hD hS => ?_)
          refine lv_iconst (v := (1 : Int32)) hx hb d_Ari_runsExtended_324 (by decide) ?_
          have ef : f_Ari_runsExtended g sp iw id ia ib ii = ((1 : Int32), t10.1, t10.2) := by unfold f_Ari_runsExtended; try dsimp only; rw [if_neg h1, if_neg h4, if_neg h7, if_pos h9]
          exact k_zret hx hb hr hlocks hK hP hD hS [0, 1, 2, 3, 4] rfl (by rw [ef] <;> rfl) (by rw [ef] <;> rfl) nb1 d_Ari_runsExtended_325
        · by_cases h11 : ii = (75 : Int32)
          · refine lv_lookup (off := 164) (tgt := 192) hx hb d_Ari_runsExtended_28 (by decide) (by have hq9 := h11 <;> rw [hq9] <;> rfl) (by decide) ?_
            refine lv_iload_n hx hb d_Ari_runsExtended_192 rfl (lv_at hl 1 rfl) ?_
            refine lv_i2l (v := ((f_Sta_register ia g).toInt64)) hx hb d_Ari_runsExtended_193 rfl ?_
            refine lv_iload_n hx hb d_Ari_runsExtended_194 rfl (lv_at hl 0 rfl) ?_
            refine lv_i2l (v := ((f_Sta_register ib g).toInt64)) hx hb d_Ari_runsExtended_195 rfl ?_
            refine lv_lmul hx hb d_Ari_runsExtended_196 ?_
            refine lv_bipush (v := (32 : Int32)) hx hb d_Ari_runsExtended_197 (by decide) ?_
            refine lv_lshr (v := (lshr (((f_Sta_register ia g).toInt64) * ((f_Sta_register ib g).toInt64)) (32 : Int32))) hx hb d_Ari_runsExtended_199 rfl ?_
            refine lv_l2i (v := ((lshr (((f_Sta_register ia g).toInt64) * ((f_Sta_register ib g).toInt64)) (32 : Int32)).toInt32)) hx hb d_Ari_runsExtended_200 rfl ?_
            refine lv_istore (lv' := [(4, .int ((lshr (((f_Sta_register ia g).toInt64) * ((f_Sta_register ib g).toInt64)) (32 : Int32)).toInt32)), (3, .int (f_Sta_register ib g)), (2, .int (f_Sta_register ia g)), (0, .ref aR), (1, .ref aI)]) hx hb d_Ari_runsExtended_201 hl (by decide) rfl (fun ls hl => ?_)
            refine lv_goto (tgt := 306) hx hb d_Ari_runsExtended_203 (by decide) ?_
            refine lv_aload_n hx hb d_Ari_runsExtended_306 rfl (lv_at hl 3 rfl) ?_
            refine va_get (D := D) (ci := 1) (v := .ref aS) (C := "MappedProcessor$Arithmetic") (T := T_Ari) (N := 1) hx hb hB iw_Ari hown hK hP 4 rfl rfl 0 (by decide) (hB _ mw_159) (fun _ h9 => h9) rfl d_Ari_runsExtended_307 ?_
            refine lv_aload_n hx hb d_Ari_runsExtended_310 rfl (lv_at hl 4 rfl) ?_
            refine va_get (D := D) (ci := 5) (v := .int id) (C := "MappedProcessor$Instruction") (T := T_Ins) (N := 8) hx hb hB iw_Ins hown hK hP 3 rfl rfl 2 (by decide) (hB _ mw_96) (fun _ h9 => h9) rfl d_Ari_runsExtended_311 ?_
            refine lv_iload hx hb d_Ari_runsExtended_314 (lv_at hl 0 rfl) ?_
            refine lv_aload_n hx hb d_Ari_runsExtended_316 rfl (lv_at hl 4 rfl) ?_
            refine lv_iconst (v := (1 : Int32)) hx hb d_Ari_runsExtended_317 (by decide) ?_
            refine k_cVi (As := [.int (1 : Int32)]) (rest := [.int ((lshr (((f_Sta_register ia g).toInt64) * ((f_Sta_register ib g).toInt64)) (32 : Int32)).toInt32), .int id, .ref aS]) (wr := [(aS, .inr (9, [.ref aG, .ref aX, .int nx, .int lt, .int sm, .int ex])), (aG, .inl (cG, 32, .inl g)), (aX, .inl (cX, 64, .inl sp)), (aR, .inr (1, [.ref aS]))]) (wj := [(aS, .inr (9, [.ref aG, .ref aX, .int nx, .int lt, .int sm, .int ex])), (aG, .inl (cG, 32, .inl g)), (aX, .inl (cX, 64, .inl sp)), (aI, .inr (5, [.int iw, .int io, .int id, .int ia, .int ib, .int ii, .int is, .int iu])), (aR, .inr (1, [.ref aS]))]) ⟨hx, hb, hml, hown, hB⟩ (c_Ins_has l D aI iw io id ia ib ii is iu (1 : Int32)) yl_Ins_has mw_512 hK hN hP hD hS hA [] [3] [0, 1, 2, 4] [0, 1, 2, 4, 3] rfl rfl rfl rfl (by decide +kernel) 0 rfl rfl rfl rfl hl.1 rfl (Nat.le_of_ble_eq_true rfl) ⟨Nat.le_of_ble_eq_true rfl, Nat.le_of_ble_eq_true rfl⟩ d_Ari_runsExtended_318 ⟨Nat.le_of_ble_eq_true rfl, Nat.le_of_ble_eq_true rfl⟩ (fun H locs hP hD hS => ?_)
            let t12 := (f_Sta_keepResult id ((lshr (((f_Sta_register ia g).toInt64) * ((f_Sta_register ib g).toInt64)) (32 : Int32)).toInt32) (f_Ins_has (1 : Int32) iw) g sp)
            refine k_cVv (As := [.int id, .int ((lshr (((f_Sta_register ia g).toInt64) * ((f_Sta_register ib g).toInt64)) (32 : Int32)).toInt32), .int (f_Ins_has (1 : Int32) iw)]) (rest := []) (wr := [(aI, .inr (5, [.int iw, .int io, .int id, .int ia, .int ib, .int ii, .int is, .int iu])), (aR, .inr (1, [.ref aS]))]) (wj := [(aS, .inr (9, [.ref aG, .ref aX, .int nx, .int lt, .int sm, .int ex])), (aG, .inl (cG, 32, .inl t12.1)), (aX, .inl (cX, 64, .inl t12.2)), (aI, .inr (5, [.int iw, .int io, .int id, .int ia, .int ib, .int ii, .int is, .int iu])), (aR, .inr (1, [.ref aS]))]) ⟨hx, hb, hml, hown, hB⟩ (c_Sta_keepResult l D aS aG aX cG cX g sp nx lt sm ex id ((lshr (((f_Sta_register ia g).toInt64) * ((f_Sta_register ib g).toInt64)) (32 : Int32)).toInt32) (f_Ins_has (1 : Int32) iw)) yl_Sta_keepResult mw_419 hK hN hP hD hS hA [0, 1] [0, 1, 2] [3, 4] [2, 3, 4, 0, 1] rfl rfl rfl rfl (by decide +kernel) 0 rfl rfl rfl rfl hl.1 rfl (Nat.le_of_ble_eq_true rfl) ⟨Nat.le_of_ble_eq_true rfl, Nat.le_of_ble_eq_true rfl⟩ d_Ari_runsExtended_321 ⟨Nat.le_of_ble_eq_true rfl, Nat.le_of_ble_eq_true rfl⟩ (fun H locs hP hD hS => ?_)
            refine lv_iconst (v := (1 : Int32)) hx hb d_Ari_runsExtended_324 (by decide) ?_
            have ef : f_Ari_runsExtended g sp iw id ia ib ii = ((1 : Int32), t12.1, t12.2) := by unfold f_Ari_runsExtended; try dsimp only; rw [if_neg h1, if_neg h4, if_neg h7, if_neg h9, if_pos h11]
            exact k_zret hx hb hr hlocks hK hP hD hS [0, 1, 2, 3, 4] rfl (by rw [ef] <;> rfl) (by rw [ef] <;> rfl) nb1 d_Ari_runsExtended_325
          · by_cases h13 : ii = (104 : Int32)
            · refine lv_lookup (off := 178) (tgt := 206) hx hb d_Ari_runsExtended_28 (by decide) (by have hq9 := h13 <;> rw [hq9] <;> rfl) (by decide) ?_
              refine lv_iload_n hx hb d_Ari_runsExtended_206 rfl (lv_at hl 1 rfl) ?_
              refine lv_ineg hx hb d_Ari_runsExtended_207 ?_
              refine lv_istore (lv' := [(4, .int (-(f_Sta_register ia g))), (3, .int (f_Sta_register ib g)), (2, .int (f_Sta_register ia g)), (0, .ref aR), (1, .ref aI)]) hx hb d_Ari_runsExtended_208 hl (by decide) rfl (fun ls hl => ?_)
              refine lv_goto (tgt := 306) hx hb d_Ari_runsExtended_210 (by decide) ?_
              refine lv_aload_n hx hb d_Ari_runsExtended_306 rfl (lv_at hl 3 rfl) ?_
              refine va_get (D := D) (ci := 1) (v := .ref aS) (C := "MappedProcessor$Arithmetic") (T := T_Ari) (N := 1) hx hb hB iw_Ari hown hK hP 4 rfl rfl 0 (by decide) (hB _ mw_159) (fun _ h9 => h9) rfl d_Ari_runsExtended_307 ?_
              refine lv_aload_n hx hb d_Ari_runsExtended_310 rfl (lv_at hl 4 rfl) ?_
              refine va_get (D := D) (ci := 5) (v := .int id) (C := "MappedProcessor$Instruction") (T := T_Ins) (N := 8) hx hb hB iw_Ins hown hK hP 3 rfl rfl 2 (by decide) (hB _ mw_96) (fun _ h9 => h9) rfl d_Ari_runsExtended_311 ?_
              refine lv_iload hx hb d_Ari_runsExtended_314 (lv_at hl 0 rfl) ?_
              refine lv_aload_n hx hb d_Ari_runsExtended_316 rfl (lv_at hl 4 rfl) ?_
              refine lv_iconst (v := (1 : Int32)) hx hb d_Ari_runsExtended_317 (by decide) ?_
              refine k_cVi (As := [.int (1 : Int32)]) (rest := [.int (-(f_Sta_register ia g)), .int id, .ref aS]) (wr := [(aS, .inr (9, [.ref aG, .ref aX, .int nx, .int lt, .int sm, .int ex])), (aG, .inl (cG, 32, .inl g)), (aX, .inl (cX, 64, .inl sp)), (aR, .inr (1, [.ref aS]))]) (wj := [(aS, .inr (9, [.ref aG, .ref aX, .int nx, .int lt, .int sm, .int ex])), (aG, .inl (cG, 32, .inl g)), (aX, .inl (cX, 64, .inl sp)), (aI, .inr (5, [.int iw, .int io, .int id, .int ia, .int ib, .int ii, .int is, .int iu])), (aR, .inr (1, [.ref aS]))]) ⟨hx, hb, hml, hown, hB⟩ (c_Ins_has l D aI iw io id ia ib ii is iu (1 : Int32)) yl_Ins_has mw_512 hK hN hP hD hS hA [] [3] [0, 1, 2, 4] [0, 1, 2, 4, 3] rfl rfl rfl rfl (by decide +kernel) 0 rfl rfl rfl rfl hl.1 rfl (Nat.le_of_ble_eq_true rfl) ⟨Nat.le_of_ble_eq_true rfl, Nat.le_of_ble_eq_true rfl⟩ d_Ari_runsExtended_318 ⟨Nat.le_of_ble_eq_true rfl, Nat.le_of_ble_eq_true rfl⟩ (fun H locs hP hD hS => ?_)
              let t14 := (f_Sta_keepResult id (-(f_Sta_register ia g)) (f_Ins_has (1 : Int32) iw) g sp)
              refine k_cVv (As := [.int id, .int (-(f_Sta_register ia g)), .int (f_Ins_has (1 : Int32) iw)]) (rest := []) (wr := [(aI, .inr (5, [.int iw, .int io, .int id, .int ia, .int ib, .int ii, .int is, .int iu])), (aR, .inr (1, [.ref aS]))]) (wj := [(aS, .inr (9, [.ref aG, .ref aX, .int nx, .int lt, .int sm, .int ex])), (aG, .inl (cG, 32, .inl t14.1)), (aX, .inl (cX, 64, .inl t14.2)), (aI, .inr (5, [.int iw, .int io, .int id, .int ia, .int ib, .int ii, .int is, .int iu])), (aR, .inr (1, [.ref aS]))]) ⟨hx, hb, hml, hown, hB⟩ (c_Sta_keepResult l D aS aG aX cG cX g sp nx lt sm ex id (-(f_Sta_register ia g)) (f_Ins_has (1 : Int32) iw)) yl_Sta_keepResult mw_419 hK hN hP hD hS hA [0, 1] [0, 1, 2] [3, 4] [2, 3, 4, 0, 1] rfl rfl rfl rfl (by decide +kernel) 0 rfl rfl rfl rfl hl.1 rfl (Nat.le_of_ble_eq_true rfl) ⟨Nat.le_of_ble_eq_true rfl, Nat.le_of_ble_eq_true rfl⟩ d_Ari_runsExtended_321 ⟨Nat.le_of_ble_eq_true rfl, Nat.le_of_ble_eq_true rfl⟩ (fun H locs hP hD hS => ?_)
              refine lv_iconst (v := (1 : Int32)) hx hb d_Ari_runsExtended_324 (by decide) ?_
              have ef : f_Ari_runsExtended g sp iw id ia ib ii = ((1 : Int32), t14.1, t14.2) := by unfold f_Ari_runsExtended; try dsimp only; rw [if_neg h1, if_neg h4, if_neg h7, if_neg h9, if_neg h11, if_pos h13]
              exact k_zret hx hb hr hlocks hK hP hD hS [0, 1, 2, 3, 4] rfl (by rw [ef] <;> rfl) (by rw [ef] <;> rfl) nb1 d_Ari_runsExtended_325
            · by_cases h15 : ii = (136 : Int32)
              · refine lv_lookup (off := 185) (tgt := 213) hx hb d_Ari_runsExtended_28 (by decide) (by have hq9 := h15 <;> rw [hq9] <;> rfl) (by decide) ?_
                refine lv_aload_n hx hb d_Ari_runsExtended_213 rfl (lv_at hl 2 rfl) ?_
                refine lv_iload_n hx hb d_Ari_runsExtended_214 rfl (lv_at hl 1 rfl) ?_
                refine lv_iconst (v := (-1 : Int32)) hx hb d_Ari_runsExtended_215 (by decide) ?_
                refine lv_ixor hx hb d_Ari_runsExtended_216 ?_
                refine lv_iload_n hx hb d_Ari_runsExtended_217 rfl (lv_at hl 0 rfl) ?_
                refine lv_aload_n hx hb d_Ari_runsExtended_218 rfl (lv_at hl 2 rfl) ?_
                refine va_get (D := D) (ci := 1) (v := .ref aS) (C := "MappedProcessor$Arithmetic") (T := T_Ari) (N := 1) hx hb hB iw_Ari hown hK hP 4 rfl rfl 0 (by decide) (hB _ mw_159) (fun _ h9 => h9) rfl d_Ari_runsExtended_219 ?_
                refine k_cVi (As := []) (rest := [.int (f_Sta_register ib g), .int ((f_Sta_register ia g) ^^^ (-1 : Int32)), .ref aR]) (wr := [(aI, .inr (5, [.int iw, .int io, .int id, .int ia, .int ib, .int ii, .int is, .int iu])), (aR, .inr (1, [.ref aS]))]) (wj := [(aS, .inr (9, [.ref aG, .ref aX, .int nx, .int lt, .int sm, .int ex])), (aG, .inl (cG, 32, .inl g)), (aX, .inl (cX, 64, .inl sp)), (aI, .inr (5, [.int iw, .int io, .int id, .int ia, .int ib, .int ii, .int is, .int iu])), (aR, .inr (1, [.ref aS]))]) ⟨hx, hb, hml, hown, hB⟩ (c_Sta_carry l D aS aG aX cG cX g sp nx lt sm ex) yl_Sta_carry mw_504 hK hN hP hD hS hA [0, 1] [0, 1, 2] [3, 4] [2, 3, 4, 0, 1] rfl rfl rfl rfl (by decide +kernel) 0 rfl rfl rfl rfl hl.1 rfl (Nat.le_of_ble_eq_true rfl) ⟨Nat.le_of_ble_eq_true rfl, Nat.le_of_ble_eq_true rfl⟩ d_Ari_runsExtended_222 ⟨Nat.le_of_ble_eq_true rfl, Nat.le_of_ble_eq_true rfl⟩ (fun H locs hP hD hS => ?_)
                let t16 := (f_Ari_sumWithCarry ((f_Sta_register ia g) ^^^ (-1 : Int32)) (f_Sta_register ib g) (f_Sta_carry sp) sp)
                refine k_cVi (As := [.int ((f_Sta_register ia g) ^^^ (-1 : Int32)), .int (f_Sta_register ib g), .int (f_Sta_carry sp)]) (rest := []) (wr := [(aI, .inr (5, [.int iw, .int io, .int id, .int ia, .int ib, .int ii, .int is, .int iu]))]) (wj := [(aS, .inr (9, [.ref aG, .ref aX, .int nx, .int lt, .int sm, .int ex])), (aG, .inl (cG, 32, .inl g)), (aX, .inl (cX, 64, .inl t16.2)), (aI, .inr (5, [.int iw, .int io, .int id, .int ia, .int ib, .int ii, .int is, .int iu])), (aR, .inr (1, [.ref aS]))]) ⟨hx, hb, hml, hown, hB⟩ (c_Ari_sumWithCarry l D aS aG aX aR cG cX g sp nx lt sm ex ((f_Sta_register ia g) ^^^ (-1 : Int32)) (f_Sta_register ib g) (f_Sta_carry sp)) yl_Ari_sumWithCarry mw_402 hK hN hP hD hS hA [0, 1] [0, 1, 2, 4] [3] [1, 2, 3, 0, 4] rfl rfl rfl rfl (by decide +kernel) 3 rfl rfl rfl rfl hl.1 rfl (Nat.le_of_ble_eq_true rfl) ⟨Nat.le_of_ble_eq_true rfl, Nat.le_of_ble_eq_true rfl⟩ d_Ari_runsExtended_225 ⟨Nat.le_of_ble_eq_true rfl, Nat.le_of_ble_eq_true rfl⟩ (fun H locs hP hD hS => ?_)
                refine lv_istore (lv' := [(4, .int t16.1), (3, .int (f_Sta_register ib g)), (2, .int (f_Sta_register ia g)), (0, .ref aR), (1, .ref aI)]) hx hb d_Ari_runsExtended_228 hl (by decide) rfl (fun ls hl => ?_)
                refine lv_goto (tgt := 306) hx hb d_Ari_runsExtended_230 (by decide) ?_
                refine lv_aload_n hx hb d_Ari_runsExtended_306 rfl (lv_at hl 3 rfl) ?_
                refine va_get (D := D) (ci := 1) (v := .ref aS) (C := "MappedProcessor$Arithmetic") (T := T_Ari) (N := 1) hx hb hB iw_Ari hown hK hP 4 rfl rfl 0 (by decide) (hB _ mw_159) (fun _ h9 => h9) rfl d_Ari_runsExtended_307 ?_
                refine lv_aload_n hx hb d_Ari_runsExtended_310 rfl (lv_at hl 4 rfl) ?_
                refine va_get (D := D) (ci := 5) (v := .int id) (C := "MappedProcessor$Instruction") (T := T_Ins) (N := 8) hx hb hB iw_Ins hown hK hP 3 rfl rfl 2 (by decide) (hB _ mw_96) (fun _ h9 => h9) rfl d_Ari_runsExtended_311 ?_
                refine lv_iload hx hb d_Ari_runsExtended_314 (lv_at hl 0 rfl) ?_
                refine lv_aload_n hx hb d_Ari_runsExtended_316 rfl (lv_at hl 4 rfl) ?_
                refine lv_iconst (v := (1 : Int32)) hx hb d_Ari_runsExtended_317 (by decide) ?_
                refine k_cVi (As := [.int (1 : Int32)]) (rest := [.int t16.1, .int id, .ref aS]) (wr := [(aS, .inr (9, [.ref aG, .ref aX, .int nx, .int lt, .int sm, .int ex])), (aG, .inl (cG, 32, .inl g)), (aX, .inl (cX, 64, .inl t16.2)), (aR, .inr (1, [.ref aS]))]) (wj := [(aS, .inr (9, [.ref aG, .ref aX, .int nx, .int lt, .int sm, .int ex])), (aG, .inl (cG, 32, .inl g)), (aX, .inl (cX, 64, .inl t16.2)), (aI, .inr (5, [.int iw, .int io, .int id, .int ia, .int ib, .int ii, .int is, .int iu])), (aR, .inr (1, [.ref aS]))]) ⟨hx, hb, hml, hown, hB⟩ (c_Ins_has l D aI iw io id ia ib ii is iu (1 : Int32)) yl_Ins_has mw_512 hK hN hP hD hS hA [] [3] [0, 1, 2, 4] [0, 1, 2, 4, 3] rfl rfl rfl rfl (by decide +kernel) 0 rfl rfl rfl rfl hl.1 rfl (Nat.le_of_ble_eq_true rfl) ⟨Nat.le_of_ble_eq_true rfl, Nat.le_of_ble_eq_true rfl⟩ d_Ari_runsExtended_318 ⟨Nat.le_of_ble_eq_true rfl, Nat.le_of_ble_eq_true rfl⟩ (fun H locs hP hD hS => ?_)
                let t17 := (f_Sta_keepResult id t16.1 (f_Ins_has (1 : Int32) iw) g t16.2)
                refine k_cVv (As := [.int id, .int t16.1, .int (f_Ins_has (1 : Int32) iw)]) (rest := []) (wr := [(aI, .inr (5, [.int iw, .int io, .int id, .int ia, .int ib, .int ii, .int is, .int iu])), (aR, .inr (1, [.ref aS]))]) (wj := [(aS, .inr (9, [.ref aG, .ref aX, .int nx, .int lt, .int sm, .int ex])), (aG, .inl (cG, 32, .inl t17.1)), (aX, .inl (cX, 64, .inl t17.2)), (aI, .inr (5, [.int iw, .int io, .int id, .int ia, .int ib, .int ii, .int is, .int iu])), (aR, .inr (1, [.ref aS]))]) ⟨hx, hb, hml, hown, hB⟩ (c_Sta_keepResult l D aS aG aX cG cX g t16.2 nx lt sm ex id t16.1 (f_Ins_has (1 : Int32) iw)) yl_Sta_keepResult mw_419 hK hN hP hD hS hA [0, 1] [0, 1, 2] [3, 4] [2, 3, 4, 0, 1] rfl rfl rfl rfl (by decide +kernel) 0 rfl rfl rfl rfl hl.1 rfl (Nat.le_of_ble_eq_true rfl) ⟨Nat.le_of_ble_eq_true rfl, Nat.le_of_ble_eq_true rfl⟩ d_Ari_runsExtended_321 ⟨Nat.le_of_ble_eq_true rfl, Nat.le_of_ble_eq_true rfl⟩ (fun H locs hP hD hS => ?_)
                refine lv_iconst (v := (1 : Int32)) hx hb d_Ari_runsExtended_324 (by decide) ?_
                have ef : f_Ari_runsExtended g sp iw id ia ib ii = ((1 : Int32), t17.1, t17.2) := by unfold f_Ari_runsExtended; try dsimp only; rw [if_neg h1, if_neg h4, if_neg h7, if_neg h9, if_neg h11, if_neg h13, if_pos h15]
                exact k_zret hx hb hr hlocks hK hP hD hS [0, 1, 2, 3, 4] rfl (by rw [ef] <;> rfl) (by rw [ef] <;> rfl) nb1 d_Ari_runsExtended_325
              · by_cases h18 : ii = (138 : Int32)
                · refine lv_lookup (off := 205) (tgt := 233) hx hb d_Ari_runsExtended_28 (by decide) (by have hq9 := h18 <;> rw [hq9] <;> rfl) (by decide) ?_
                  refine lv_aload_n hx hb d_Ari_runsExtended_233 rfl (lv_at hl 2 rfl) ?_
                  refine lv_iload_n hx hb d_Ari_runsExtended_234 rfl (lv_at hl 1 rfl) ?_
                  refine lv_iload_n hx hb d_Ari_runsExtended_235 rfl (lv_at hl 0 rfl) ?_
                  refine lv_aload_n hx hb d_Ari_runsExtended_236 rfl (lv_at hl 2 rfl) ?_
                  refine va_get (D := D) (ci := 1) (v := .ref aS) (C := "MappedProcessor$Arithmetic") (T := T_Ari) (N := 1) hx hb hB iw_Ari hown hK hP 4 rfl rfl 0 (by decide) (hB _ mw_159) (fun _ h9 => h9) rfl d_Ari_runsExtended_237 ?_
                  refine k_cVi (As := []) (rest := [.int (f_Sta_register ib g), .int (f_Sta_register ia g), .ref aR]) (wr := [(aI, .inr (5, [.int iw, .int io, .int id, .int ia, .int ib, .int ii, .int is, .int iu])), (aR, .inr (1, [.ref aS]))]) (wj := [(aS, .inr (9, [.ref aG, .ref aX, .int nx, .int lt, .int sm, .int ex])), (aG, .inl (cG, 32, .inl g)), (aX, .inl (cX, 64, .inl sp)), (aI, .inr (5, [.int iw, .int io, .int id, .int ia, .int ib, .int ii, .int is, .int iu])), (aR, .inr (1, [.ref aS]))]) ⟨hx, hb, hml, hown, hB⟩ (c_Sta_carry l D aS aG aX cG cX g sp nx lt sm ex) yl_Sta_carry mw_504 hK hN hP hD hS hA [0, 1] [0, 1, 2] [3, 4] [2, 3, 4, 0, 1] rfl rfl rfl rfl (by decide +kernel) 0 rfl rfl rfl rfl hl.1 rfl (Nat.le_of_ble_eq_true rfl) ⟨Nat.le_of_ble_eq_true rfl, Nat.le_of_ble_eq_true rfl⟩ d_Ari_runsExtended_240 ⟨Nat.le_of_ble_eq_true rfl, Nat.le_of_ble_eq_true rfl⟩ (fun H locs hP hD hS => ?_)
                  let t19 := (f_Ari_sumWithCarry (f_Sta_register ia g) (f_Sta_register ib g) (f_Sta_carry sp) sp)
                  refine k_cVi (As := [.int (f_Sta_register ia g), .int (f_Sta_register ib g), .int (f_Sta_carry sp)]) (rest := []) (wr := [(aI, .inr (5, [.int iw, .int io, .int id, .int ia, .int ib, .int ii, .int is, .int iu]))]) (wj := [(aS, .inr (9, [.ref aG, .ref aX, .int nx, .int lt, .int sm, .int ex])), (aG, .inl (cG, 32, .inl g)), (aX, .inl (cX, 64, .inl t19.2)), (aI, .inr (5, [.int iw, .int io, .int id, .int ia, .int ib, .int ii, .int is, .int iu])), (aR, .inr (1, [.ref aS]))]) ⟨hx, hb, hml, hown, hB⟩ (c_Ari_sumWithCarry l D aS aG aX aR cG cX g sp nx lt sm ex (f_Sta_register ia g) (f_Sta_register ib g) (f_Sta_carry sp)) yl_Ari_sumWithCarry mw_402 hK hN hP hD hS hA [0, 1] [0, 1, 2, 4] [3] [1, 2, 3, 0, 4] rfl rfl rfl rfl (by decide +kernel) 3 rfl rfl rfl rfl hl.1 rfl (Nat.le_of_ble_eq_true rfl) ⟨Nat.le_of_ble_eq_true rfl, Nat.le_of_ble_eq_true rfl⟩ d_Ari_runsExtended_243 ⟨Nat.le_of_ble_eq_true rfl, Nat.le_of_ble_eq_true rfl⟩ (fun H locs hP hD hS => ?_)
                  refine lv_istore (lv' := [(4, .int t19.1), (3, .int (f_Sta_register ib g)), (2, .int (f_Sta_register ia g)), (0, .ref aR), (1, .ref aI)]) hx hb d_Ari_runsExtended_246 hl (by decide) rfl (fun ls hl => ?_)
                  refine lv_goto (tgt := 306) hx hb d_Ari_runsExtended_248 (by decide) ?_
                  refine lv_aload_n hx hb d_Ari_runsExtended_306 rfl (lv_at hl 3 rfl) ?_
                  refine va_get (D := D) (ci := 1) (v := .ref aS) (C := "MappedProcessor$Arithmetic") (T := T_Ari) (N := 1) hx hb hB iw_Ari hown hK hP 4 rfl rfl 0 (by decide) (hB _ mw_159) (fun _ h9 => h9) rfl d_Ari_runsExtended_307 ?_
                  refine lv_aload_n hx hb d_Ari_runsExtended_310 rfl (lv_at hl 4 rfl) ?_
                  refine va_get (D := D) (ci := 5) (v := .int id) (C := "MappedProcessor$Instruction") (T := T_Ins) (N := 8) hx hb hB iw_Ins hown hK hP 3 rfl rfl 2 (by decide) (hB _ mw_96) (fun _ h9 => h9) rfl d_Ari_runsExtended_311 ?_
                  refine lv_iload hx hb d_Ari_runsExtended_314 (lv_at hl 0 rfl) ?_
                  refine lv_aload_n hx hb d_Ari_runsExtended_316 rfl (lv_at hl 4 rfl) ?_
                  refine lv_iconst (v := (1 : Int32)) hx hb d_Ari_runsExtended_317 (by decide) ?_
                  refine k_cVi (As := [.int (1 : Int32)]) (rest := [.int t19.1, .int id, .ref aS]) (wr := [(aS, .inr (9, [.ref aG, .ref aX, .int nx, .int lt, .int sm, .int ex])), (aG, .inl (cG, 32, .inl g)), (aX, .inl (cX, 64, .inl t19.2)), (aR, .inr (1, [.ref aS]))]) (wj := [(aS, .inr (9, [.ref aG, .ref aX, .int nx, .int lt, .int sm, .int ex])), (aG, .inl (cG, 32, .inl g)), (aX, .inl (cX, 64, .inl t19.2)), (aI, .inr (5, [.int iw, .int io, .int id, .int ia, .int ib, .int ii, .int is, .int iu])), (aR, .inr (1, [.ref aS]))]) ⟨hx, hb, hml, hown, hB⟩ (c_Ins_has l D aI iw io id ia ib ii is iu (1 : Int32)) yl_Ins_has mw_512 hK hN hP hD hS hA [] [3] [0, 1, 2, 4] [0, 1, 2, 4, 3] rfl rfl rfl rfl (by decide +kernel) 0 rfl rfl rfl rfl hl.1 rfl (Nat.le_of_ble_eq_true rfl) ⟨Nat.le_of_ble_eq_true rfl, Nat.le_of_ble_eq_true rfl⟩ d_Ari_runsExtended_318 ⟨Nat.le_of_ble_eq_true rfl, Nat.le_of_ble_eq_true rfl⟩ (fun H locs hP hD hS => ?_)
                  let t20 := (f_Sta_keepResult id t19.1 (f_Ins_has (1 : Int32) iw) g t19.2)
                  refine k_cVv (As := [.int id, .int t19.1, .int (f_Ins_has (1 : Int32) iw)]) (rest := []) (wr := [(aI, .inr (5, [.int iw, .int io, .int id, .int ia, .int ib, .int ii, .int is, .int iu])), (aR, .inr (1, [.ref aS]))]) (wj := [(aS, .inr (9, [.ref aG, .ref aX, .int nx, .int lt, .int sm, .int ex])), (aG, .inl (cG, 32, .inl t20.1)), (aX, .inl (cX, 64, .inl t20.2)), (aI, .inr (5, [.int iw, .int io, .int id, .int ia, .int ib, .int ii, .int is, .int iu])), (aR, .inr (1, [.ref aS]))]) ⟨hx, hb, hml, hown, hB⟩ (c_Sta_keepResult l D aS aG aX cG cX g t19.2 nx lt sm ex id t19.1 (f_Ins_has (1 : Int32) iw)) yl_Sta_keepResult mw_419 hK hN hP hD hS hA [0, 1] [0, 1, 2] [3, 4] [2, 3, 4, 0, 1] rfl rfl rfl rfl (by decide +kernel) 0 rfl rfl rfl rfl hl.1 rfl (Nat.le_of_ble_eq_true rfl) ⟨Nat.le_of_ble_eq_true rfl, Nat.le_of_ble_eq_true rfl⟩ d_Ari_runsExtended_321 ⟨Nat.le_of_ble_eq_true rfl, Nat.le_of_ble_eq_true rfl⟩ (fun H locs hP hD hS => ?_)
                  refine lv_iconst (v := (1 : Int32)) hx hb d_Ari_runsExtended_324 (by decide) ?_
                  have ef : f_Ari_runsExtended g sp iw id ia ib ii = ((1 : Int32), t20.1, t20.2) := by unfold f_Ari_runsExtended; try dsimp only; rw [if_neg h1, if_neg h4, if_neg h7, if_neg h9, if_neg h11, if_neg h13, if_neg h15, if_pos h18]
                  exact k_zret hx hb hr hlocks hK hP hD hS [0, 1, 2, 3, 4] rfl (by rw [ef] <;> rfl) (by rw [ef] <;> rfl) nb1 d_Ari_runsExtended_325
                · by_cases h21 : ii = (235 : Int32)
                  · refine lv_lookup (off := 223) (tgt := 251) hx hb d_Ari_runsExtended_28 (by decide) (by have hq9 := h21 <;> rw [hq9] <;> rfl) (by decide) ?_
                    refine lv_iload_n hx hb d_Ari_runsExtended_251 rfl (lv_at hl 1 rfl) ?_
                    refine lv_iload_n hx hb d_Ari_runsExtended_252 rfl (lv_at hl 0 rfl) ?_
                    refine lv_imul hx hb d_Ari_runsExtended_253 ?_
                    refine lv_istore (lv' := [(4, .int ((f_Sta_register ia g) * (f_Sta_register ib g))), (3, .int (f_Sta_register ib g)), (2, .int (f_Sta_register ia g)), (0, .ref aR), (1, .ref aI)]) hx hb d_Ari_runsExtended_254 hl (by decide) rfl (fun ls hl => ?_)
                    refine lv_goto (tgt := 306) hx hb d_Ari_runsExtended_256 (by decide) ?_
                    refine lv_aload_n hx hb d_Ari_runsExtended_306 rfl (lv_at hl 3 rfl) ?_
                    refine va_get (D := D) (ci := 1) (v := .ref aS) (C := "MappedProcessor$Arithmetic") (T := T_Ari) (N := 1) hx hb hB iw_Ari hown hK hP 4 rfl rfl 0 (by decide) (hB _ mw_159) (fun _ h9 => h9) rfl d_Ari_runsExtended_307 ?_
                    refine lv_aload_n hx hb d_Ari_runsExtended_310 rfl (lv_at hl 4 rfl) ?_
                    refine va_get (D := D) (ci := 5) (v := .int id) (C := "MappedProcessor$Instruction") (T := T_Ins) (N := 8) hx hb hB iw_Ins hown hK hP 3 rfl rfl 2 (by decide) (hB _ mw_96) (fun _ h9 => h9) rfl d_Ari_runsExtended_311 ?_
                    refine lv_iload hx hb d_Ari_runsExtended_314 (lv_at hl 0 rfl) ?_
                    refine lv_aload_n hx hb d_Ari_runsExtended_316 rfl (lv_at hl 4 rfl) ?_
                    refine lv_iconst (v := (1 : Int32)) hx hb d_Ari_runsExtended_317 (by decide) ?_
                    refine k_cVi (As := [.int (1 : Int32)]) (rest := [.int ((f_Sta_register ia g) * (f_Sta_register ib g)), .int id, .ref aS]) (wr := [(aS, .inr (9, [.ref aG, .ref aX, .int nx, .int lt, .int sm, .int ex])), (aG, .inl (cG, 32, .inl g)), (aX, .inl (cX, 64, .inl sp)), (aR, .inr (1, [.ref aS]))]) (wj := [(aS, .inr (9, [.ref aG, .ref aX, .int nx, .int lt, .int sm, .int ex])), (aG, .inl (cG, 32, .inl g)), (aX, .inl (cX, 64, .inl sp)), (aI, .inr (5, [.int iw, .int io, .int id, .int ia, .int ib, .int ii, .int is, .int iu])), (aR, .inr (1, [.ref aS]))]) ⟨hx, hb, hml, hown, hB⟩ (c_Ins_has l D aI iw io id ia ib ii is iu (1 : Int32)) yl_Ins_has mw_512 hK hN hP hD hS hA [] [3] [0, 1, 2, 4] [0, 1, 2, 4, 3] rfl rfl rfl rfl (by decide +kernel) 0 rfl rfl rfl rfl hl.1 rfl (Nat.le_of_ble_eq_true rfl) ⟨Nat.le_of_ble_eq_true rfl, Nat.le_of_ble_eq_true rfl⟩ d_Ari_runsExtended_318 ⟨Nat.le_of_ble_eq_true rfl, Nat.le_of_ble_eq_true rfl⟩ (fun H locs hP hD hS => ?_)
                    let t22 := (f_Sta_keepResult id ((f_Sta_register ia g) * (f_Sta_register ib g)) (f_Ins_has (1 : Int32) iw) g sp)
                    refine k_cVv (As := [.int id, .int ((f_Sta_register ia g) * (f_Sta_register ib g)), .int (f_Ins_has (1 : Int32) iw)]) (rest := []) (wr := [(aI, .inr (5, [.int iw, .int io, .int id, .int ia, .int ib, .int ii, .int is, .int iu])), (aR, .inr (1, [.ref aS]))]) (wj := [(aS, .inr (9, [.ref aG, .ref aX, .int nx, .int lt, .int sm, .int ex])), (aG, .inl (cG, 32, .inl t22.1)), (aX, .inl (cX, 64, .inl t22.2)), (aI, .inr (5, [.int iw, .int io, .int id, .int ia, .int ib, .int ii, .int is, .int iu])), (aR, .inr (1, [.ref aS]))]) ⟨hx, hb, hml, hown, hB⟩ (c_Sta_keepResult l D aS aG aX cG cX g sp nx lt sm ex id ((f_Sta_register ia g) * (f_Sta_register ib g)) (f_Ins_has (1 : Int32) iw)) yl_Sta_keepResult mw_419 hK hN hP hD hS hA [0, 1] [0, 1, 2] [3, 4] [2, 3, 4, 0, 1] rfl rfl rfl rfl (by decide +kernel) 0 rfl rfl rfl rfl hl.1 rfl (Nat.le_of_ble_eq_true rfl) ⟨Nat.le_of_ble_eq_true rfl, Nat.le_of_ble_eq_true rfl⟩ d_Ari_runsExtended_321 ⟨Nat.le_of_ble_eq_true rfl, Nat.le_of_ble_eq_true rfl⟩ (fun H locs hP hD hS => ?_)
                    refine lv_iconst (v := (1 : Int32)) hx hb d_Ari_runsExtended_324 (by decide) ?_
                    have ef : f_Ari_runsExtended g sp iw id ia ib ii = ((1 : Int32), t22.1, t22.2) := by unfold f_Ari_runsExtended; try dsimp only; rw [if_neg h1, if_neg h4, if_neg h7, if_neg h9, if_neg h11, if_neg h13, if_neg h15, if_neg h18, if_pos h21]
                    exact k_zret hx hb hr hlocks hK hP hD hS [0, 1, 2, 3, 4] rfl (by rw [ef] <;> rfl) (by rw [ef] <;> rfl) nb1 d_Ari_runsExtended_325
                  · by_cases h23 : ii = (266 : Int32)
                    · refine lv_lookup (off := 231) (tgt := 259) hx hb d_Ari_runsExtended_28 (by decide) (by have hq9 := h23 <;> rw [hq9] <;> rfl) (by decide) ?_
                      refine lv_iload_n hx hb d_Ari_runsExtended_259 rfl (lv_at hl 1 rfl) ?_
                      refine lv_iload_n hx hb d_Ari_runsExtended_260 rfl (lv_at hl 0 rfl) ?_
                      refine lv_iadd hx hb d_Ari_runsExtended_261 ?_
                      refine lv_istore (lv' := [(4, .int ((f_Sta_register ia g) + (f_Sta_register ib g))), (3, .int (f_Sta_register ib g)), (2, .int (f_Sta_register ia g)), (0, .ref aR), (1, .ref aI)]) hx hb d_Ari_runsExtended_262 hl (by decide) rfl (fun ls hl => ?_)
                      refine lv_goto (tgt := 306) hx hb d_Ari_runsExtended_264 (by decide) ?_
                      refine lv_aload_n hx hb d_Ari_runsExtended_306 rfl (lv_at hl 3 rfl) ?_
                      refine va_get (D := D) (ci := 1) (v := .ref aS) (C := "MappedProcessor$Arithmetic") (T := T_Ari) (N := 1) hx hb hB iw_Ari hown hK hP 4 rfl rfl 0 (by decide) (hB _ mw_159) (fun _ h9 => h9) rfl d_Ari_runsExtended_307 ?_
                      refine lv_aload_n hx hb d_Ari_runsExtended_310 rfl (lv_at hl 4 rfl) ?_
                      refine va_get (D := D) (ci := 5) (v := .int id) (C := "MappedProcessor$Instruction") (T := T_Ins) (N := 8) hx hb hB iw_Ins hown hK hP 3 rfl rfl 2 (by decide) (hB _ mw_96) (fun _ h9 => h9) rfl d_Ari_runsExtended_311 ?_
                      refine lv_iload hx hb d_Ari_runsExtended_314 (lv_at hl 0 rfl) ?_
                      refine lv_aload_n hx hb d_Ari_runsExtended_316 rfl (lv_at hl 4 rfl) ?_
                      refine lv_iconst (v := (1 : Int32)) hx hb d_Ari_runsExtended_317 (by decide) ?_
                      refine k_cVi (As := [.int (1 : Int32)]) (rest := [.int ((f_Sta_register ia g) + (f_Sta_register ib g)), .int id, .ref aS]) (wr := [(aS, .inr (9, [.ref aG, .ref aX, .int nx, .int lt, .int sm, .int ex])), (aG, .inl (cG, 32, .inl g)), (aX, .inl (cX, 64, .inl sp)), (aR, .inr (1, [.ref aS]))]) (wj := [(aS, .inr (9, [.ref aG, .ref aX, .int nx, .int lt, .int sm, .int ex])), (aG, .inl (cG, 32, .inl g)), (aX, .inl (cX, 64, .inl sp)), (aI, .inr (5, [.int iw, .int io, .int id, .int ia, .int ib, .int ii, .int is, .int iu])), (aR, .inr (1, [.ref aS]))]) ⟨hx, hb, hml, hown, hB⟩ (c_Ins_has l D aI iw io id ia ib ii is iu (1 : Int32)) yl_Ins_has mw_512 hK hN hP hD hS hA [] [3] [0, 1, 2, 4] [0, 1, 2, 4, 3] rfl rfl rfl rfl (by decide +kernel) 0 rfl rfl rfl rfl hl.1 rfl (Nat.le_of_ble_eq_true rfl) ⟨Nat.le_of_ble_eq_true rfl, Nat.le_of_ble_eq_true rfl⟩ d_Ari_runsExtended_318 ⟨Nat.le_of_ble_eq_true rfl, Nat.le_of_ble_eq_true rfl⟩ (fun H locs hP hD hS => ?_)
                      let t24 := (f_Sta_keepResult id ((f_Sta_register ia g) + (f_Sta_register ib g)) (f_Ins_has (1 : Int32) iw) g sp)
                      refine k_cVv (As := [.int id, .int ((f_Sta_register ia g) + (f_Sta_register ib g)), .int (f_Ins_has (1 : Int32) iw)]) (rest := []) (wr := [(aI, .inr (5, [.int iw, .int io, .int id, .int ia, .int ib, .int ii, .int is, .int iu])), (aR, .inr (1, [.ref aS]))]) (wj := [(aS, .inr (9, [.ref aG, .ref aX, .int nx, .int lt, .int sm, .int ex])), (aG, .inl (cG, 32, .inl t24.1)), (aX, .inl (cX, 64, .inl t24.2)), (aI, .inr (5, [.int iw, .int io, .int id, .int ia, .int ib, .int ii, .int is, .int iu])), (aR, .inr (1, [.ref aS]))]) ⟨hx, hb, hml, hown, hB⟩ (c_Sta_keepResult l D aS aG aX cG cX g sp nx lt sm ex id ((f_Sta_register ia g) + (f_Sta_register ib g)) (f_Ins_has (1 : Int32) iw)) yl_Sta_keepResult mw_419 hK hN hP hD hS hA [0, 1] [0, 1, 2] [3, 4] [2, 3, 4, 0, 1] rfl rfl rfl rfl (by decide +kernel) 0 rfl rfl rfl rfl hl.1 rfl (Nat.le_of_ble_eq_true rfl) ⟨Nat.le_of_ble_eq_true rfl, Nat.le_of_ble_eq_true rfl⟩ d_Ari_runsExtended_321 ⟨Nat.le_of_ble_eq_true rfl, Nat.le_of_ble_eq_true rfl⟩ (fun H locs hP hD hS => ?_)
                      refine lv_iconst (v := (1 : Int32)) hx hb d_Ari_runsExtended_324 (by decide) ?_
                      have ef : f_Ari_runsExtended g sp iw id ia ib ii = ((1 : Int32), t24.1, t24.2) := by unfold f_Ari_runsExtended; try dsimp only; rw [if_neg h1, if_neg h4, if_neg h7, if_neg h9, if_neg h11, if_neg h13, if_neg h15, if_neg h18, if_neg h21, if_pos h23]
                      exact k_zret hx hb hr hlocks hK hP hD hS [0, 1, 2, 3, 4] rfl (by rw [ef] <;> rfl) (by rw [ef] <;> rfl) nb1 d_Ari_runsExtended_325
                    · by_cases h25 : ii = (459 : Int32)
                      · refine lv_lookup (off := 239) (tgt := 267) hx hb d_Ari_runsExtended_28 (by decide) (by have hq9 := h25 <;> rw [hq9] <;> rfl) (by decide) ?_
                        refine lv_iload_n hx hb d_Ari_runsExtended_267 rfl (lv_at hl 0 rfl) ?_
                        refine lv_if_ne (tgt := 275) hx hb d_Ari_runsExtended_268 (by decide) (fun (h29 : ¬ (f_Sta_register ib g) = (0 : Int32)) => ?_) (fun (h29 : (f_Sta_register ib g) = (0 : Int32)) => ?_)
                        · refine lv_iload_n hx hb d_Ari_runsExtended_275 rfl (lv_at hl 1 rfl) ?_
                          refine lv_i2l (v := ((f_Sta_register ia g).toInt64)) hx hb d_Ari_runsExtended_276 rfl ?_
                          refine lv_ldc2 (v := (4294967295 : Int64)) hx hb hown (hB _ mw_406) d_Ari_runsExtended_277 ?_
                          refine lv_land hx hb d_Ari_runsExtended_280 ?_
                          refine lv_iload_n hx hb d_Ari_runsExtended_281 rfl (lv_at hl 0 rfl) ?_
                          refine lv_i2l (v := ((f_Sta_register ib g).toInt64)) hx hb d_Ari_runsExtended_282 rfl ?_
                          refine lv_ldc2 (v := (4294967295 : Int64)) hx hb hown (hB _ mw_406) d_Ari_runsExtended_283 ?_
                          refine lv_land hx hb d_Ari_runsExtended_286 ?_
                          refine lv_ldiv hx hb d_Ari_runsExtended_287 (ldiv_ne h29) ?_
                          refine lv_l2i (v := (((((f_Sta_register ia g).toInt64) &&& (4294967295 : Int64)) / (((f_Sta_register ib g).toInt64) &&& (4294967295 : Int64))).toInt32)) hx hb d_Ari_runsExtended_288 rfl ?_
                          refine lv_istore (lv' := [(4, .int (((((f_Sta_register ia g).toInt64) &&& (4294967295 : Int64)) / (((f_Sta_register ib g).toInt64) &&& (4294967295 : Int64))).toInt32)), (3, .int (f_Sta_register ib g)), (2, .int (f_Sta_register ia g)), (0, .ref aR), (1, .ref aI)]) hx hb d_Ari_runsExtended_289 hl (by decide) rfl (fun ls hl => ?_)
                          refine lv_goto (tgt := 306) hx hb d_Ari_runsExtended_291 (by decide) ?_
                          refine lv_aload_n hx hb d_Ari_runsExtended_306 rfl (lv_at hl 3 rfl) ?_
                          refine va_get (D := D) (ci := 1) (v := .ref aS) (C := "MappedProcessor$Arithmetic") (T := T_Ari) (N := 1) hx hb hB iw_Ari hown hK hP 4 rfl rfl 0 (by decide) (hB _ mw_159) (fun _ h9 => h9) rfl d_Ari_runsExtended_307 ?_
                          refine lv_aload_n hx hb d_Ari_runsExtended_310 rfl (lv_at hl 4 rfl) ?_
                          refine va_get (D := D) (ci := 5) (v := .int id) (C := "MappedProcessor$Instruction") (T := T_Ins) (N := 8) hx hb hB iw_Ins hown hK hP 3 rfl rfl 2 (by decide) (hB _ mw_96) (fun _ h9 => h9) rfl d_Ari_runsExtended_311 ?_
                          refine lv_iload hx hb d_Ari_runsExtended_314 (lv_at hl 0 rfl) ?_
                          refine lv_aload_n hx hb d_Ari_runsExtended_316 rfl (lv_at hl 4 rfl) ?_
                          refine lv_iconst (v := (1 : Int32)) hx hb d_Ari_runsExtended_317 (by decide) ?_
                          refine k_cVi (As := [.int (1 : Int32)]) (rest := [.int (((((f_Sta_register ia g).toInt64) &&& (4294967295 : Int64)) / (((f_Sta_register ib g).toInt64) &&& (4294967295 : Int64))).toInt32), .int id, .ref aS]) (wr := [(aS, .inr (9, [.ref aG, .ref aX, .int nx, .int lt, .int sm, .int ex])), (aG, .inl (cG, 32, .inl g)), (aX, .inl (cX, 64, .inl sp)), (aR, .inr (1, [.ref aS]))]) (wj := [(aS, .inr (9, [.ref aG, .ref aX, .int nx, .int lt, .int sm, .int ex])), (aG, .inl (cG, 32, .inl g)), (aX, .inl (cX, 64, .inl sp)), (aI, .inr (5, [.int iw, .int io, .int id, .int ia, .int ib, .int ii, .int is, .int iu])), (aR, .inr (1, [.ref aS]))]) ⟨hx, hb, hml, hown, hB⟩ (c_Ins_has l D aI iw io id ia ib ii is iu (1 : Int32)) yl_Ins_has mw_512 hK hN hP hD hS hA [] [3] [0, 1, 2, 4] [0, 1, 2, 4, 3] rfl rfl rfl rfl (by decide +kernel) 0 rfl rfl rfl rfl hl.1 rfl (Nat.le_of_ble_eq_true rfl) ⟨Nat.le_of_ble_eq_true rfl, Nat.le_of_ble_eq_true rfl⟩ d_Ari_runsExtended_318 ⟨Nat.le_of_ble_eq_true rfl, Nat.le_of_ble_eq_true rfl⟩ (fun H locs hP hD hS => ?_)
                          let t30 := (f_Sta_keepResult id (((((f_Sta_register ia g).toInt64) &&& (4294967295 : Int64)) / (((f_Sta_register ib g).toInt64) &&& (4294967295 : Int64))).toInt32) (f_Ins_has (1 : Int32) iw) g sp)
                          refine k_cVv (As := [.int id, .int (((((f_Sta_register ia g).toInt64) &&& (4294967295 : Int64)) / (((f_Sta_register ib g).toInt64) &&& (4294967295 : Int64))).toInt32), .int (f_Ins_has (1 : Int32) iw)]) (rest := []) (wr := [(aI, .inr (5, [.int iw, .int io, .int id, .int ia, .int ib, .int ii, .int is, .int iu])), (aR, .inr (1, [.ref aS]))]) (wj := [(aS, .inr (9, [.ref aG, .ref aX, .int nx, .int lt, .int sm, .int ex])), (aG, .inl (cG, 32, .inl t30.1)), (aX, .inl (cX, 64, .inl t30.2)), (aI, .inr (5, [.int iw, .int io, .int id, .int ia, .int ib, .int ii, .int is, .int iu])), (aR, .inr (1, [.ref aS]))]) ⟨hx, hb, hml, hown, hB⟩ (c_Sta_keepResult l D aS aG aX cG cX g sp nx lt sm ex id (((((f_Sta_register ia g).toInt64) &&& (4294967295 : Int64)) / (((f_Sta_register ib g).toInt64) &&& (4294967295 : Int64))).toInt32) (f_Ins_has (1 : Int32) iw)) yl_Sta_keepResult mw_419 hK hN hP hD hS hA [0, 1] [0, 1, 2] [3, 4] [2, 3, 4, 0, 1] rfl rfl rfl rfl (by decide +kernel) 0 rfl rfl rfl rfl hl.1 rfl (Nat.le_of_ble_eq_true rfl) ⟨Nat.le_of_ble_eq_true rfl, Nat.le_of_ble_eq_true rfl⟩ d_Ari_runsExtended_321 ⟨Nat.le_of_ble_eq_true rfl, Nat.le_of_ble_eq_true rfl⟩ (fun H locs hP hD hS => ?_)
                          refine lv_iconst (v := (1 : Int32)) hx hb d_Ari_runsExtended_324 (by decide) ?_
                          have ef : f_Ari_runsExtended g sp iw id ia ib ii = ((1 : Int32), t30.1, t30.2) := by unfold f_Ari_runsExtended; try dsimp only; rw [if_neg h1, if_neg h4, if_neg h7, if_neg h9, if_neg h11, if_neg h13, if_neg h15, if_neg h18, if_neg h21, if_neg h23, if_pos h25, if_neg h29]
                          exact k_zret hx hb hr hlocks hK hP hD hS [0, 1, 2, 3, 4] rfl (by rw [ef] <;> rfl) (by rw [ef] <;> rfl) nb1 d_Ari_runsExtended_325
                        · refine lv_iconst (v := (0 : Int32)) hx hb d_Ari_runsExtended_271 (by decide) ?_
                          refine lv_goto (tgt := 289) hx hb d_Ari_runsExtended_272 (by decide) ?_
                          refine lv_istore (lv' := [(4, .int (0 : Int32)), (3, .int (f_Sta_register ib g)), (2, .int (f_Sta_register ia g)), (0, .ref aR), (1, .ref aI)]) hx hb d_Ari_runsExtended_289 hl (by decide) rfl (fun ls hl => ?_)
                          refine lv_goto (tgt := 306) hx hb d_Ari_runsExtended_291 (by decide) ?_
                          refine lv_aload_n hx hb d_Ari_runsExtended_306 rfl (lv_at hl 3 rfl) ?_
                          refine va_get (D := D) (ci := 1) (v := .ref aS) (C := "MappedProcessor$Arithmetic") (T := T_Ari) (N := 1) hx hb hB iw_Ari hown hK hP 4 rfl rfl 0 (by decide) (hB _ mw_159) (fun _ h9 => h9) rfl d_Ari_runsExtended_307 ?_
                          refine lv_aload_n hx hb d_Ari_runsExtended_310 rfl (lv_at hl 4 rfl) ?_
                          refine va_get (D := D) (ci := 5) (v := .int id) (C := "MappedProcessor$Instruction") (T := T_Ins) (N := 8) hx hb hB iw_Ins hown hK hP 3 rfl rfl 2 (by decide) (hB _ mw_96) (fun _ h9 => h9) rfl d_Ari_runsExtended_311 ?_
                          refine lv_iload hx hb d_Ari_runsExtended_314 (lv_at hl 0 rfl) ?_
                          refine lv_aload_n hx hb d_Ari_runsExtended_316 rfl (lv_at hl 4 rfl) ?_
                          refine lv_iconst (v := (1 : Int32)) hx hb d_Ari_runsExtended_317 (by decide) ?_
                          refine k_cVi (As := [.int (1 : Int32)]) (rest := [.int (0 : Int32), .int id, .ref aS]) (wr := [(aS, .inr (9, [.ref aG, .ref aX, .int nx, .int lt, .int sm, .int ex])), (aG, .inl (cG, 32, .inl g)), (aX, .inl (cX, 64, .inl sp)), (aR, .inr (1, [.ref aS]))]) (wj := [(aS, .inr (9, [.ref aG, .ref aX, .int nx, .int lt, .int sm, .int ex])), (aG, .inl (cG, 32, .inl g)), (aX, .inl (cX, 64, .inl sp)), (aI, .inr (5, [.int iw, .int io, .int id, .int ia, .int ib, .int ii, .int is, .int iu])), (aR, .inr (1, [.ref aS]))]) ⟨hx, hb, hml, hown, hB⟩ (c_Ins_has l D aI iw io id ia ib ii is iu (1 : Int32)) yl_Ins_has mw_512 hK hN hP hD hS hA [] [3] [0, 1, 2, 4] [0, 1, 2, 4, 3] rfl rfl rfl rfl (by decide +kernel) 0 rfl rfl rfl rfl hl.1 rfl (Nat.le_of_ble_eq_true rfl) ⟨Nat.le_of_ble_eq_true rfl, Nat.le_of_ble_eq_true rfl⟩ d_Ari_runsExtended_318 ⟨Nat.le_of_ble_eq_true rfl, Nat.le_of_ble_eq_true rfl⟩ (fun H locs hP hD hS => ?_)
                          let t31 := (f_Sta_keepResult id (0 : Int32) (f_Ins_has (1 : Int32) iw) g sp)
                          refine k_cVv (As := [.int id, .int (0 : Int32), .int (f_Ins_has (1 : Int32) iw)]) (rest := []) (wr := [(aI, .inr (5, [.int iw, .int io, .int id, .int ia, .int ib, .int ii, .int is, .int iu])), (aR, .inr (1, [.ref aS]))]) (wj := [(aS, .inr (9, [.ref aG, .ref aX, .int nx, .int lt, .int sm, .int ex])), (aG, .inl (cG, 32, .inl t31.1)), (aX, .inl (cX, 64, .inl t31.2)), (aI, .inr (5, [.int iw, .int io, .int id, .int ia, .int ib, .int ii, .int is, .int iu])), (aR, .inr (1, [.ref aS]))]) ⟨hx, hb, hml, hown, hB⟩ (c_Sta_keepResult l D aS aG aX cG cX g sp nx lt sm ex id (0 : Int32) (f_Ins_has (1 : Int32) iw)) yl_Sta_keepResult mw_419 hK hN hP hD hS hA [0, 1] [0, 1, 2] [3, 4] [2, 3, 4, 0, 1] rfl rfl rfl rfl (by decide +kernel) 0 rfl rfl rfl rfl hl.1 rfl (Nat.le_of_ble_eq_true rfl) ⟨Nat.le_of_ble_eq_true rfl, Nat.le_of_ble_eq_true rfl⟩ d_Ari_runsExtended_321 ⟨Nat.le_of_ble_eq_true rfl, Nat.le_of_ble_eq_true rfl⟩ (fun H locs hP hD hS => ?_)
                          refine lv_iconst (v := (1 : Int32)) hx hb d_Ari_runsExtended_324 (by decide) ?_
                          have ef : f_Ari_runsExtended g sp iw id ia ib ii = ((1 : Int32), t31.1, t31.2) := by unfold f_Ari_runsExtended; try dsimp only; rw [if_neg h1, if_neg h4, if_neg h7, if_neg h9, if_neg h11, if_neg h13, if_neg h15, if_neg h18, if_neg h21, if_neg h23, if_pos h25, if_pos h29]
                          exact k_zret hx hb hr hlocks hK hP hD hS [0, 1, 2, 3, 4] rfl (by rw [ef] <;> rfl) (by rw [ef] <;> rfl) nb1 d_Ari_runsExtended_325
                      · by_cases h32 : ii = (491 : Int32)
                        · refine lv_lookup (off := 266) (tgt := 294) hx hb d_Ari_runsExtended_28 (by decide) (by have hq9 := h32 <;> rw [hq9] <;> rfl) (by decide) ?_
                          refine lv_iload_n hx hb d_Ari_runsExtended_294 rfl (lv_at hl 1 rfl) ?_
                          refine lv_iload_n hx hb d_Ari_runsExtended_295 rfl (lv_at hl 0 rfl) ?_
                          refine k_cSi (As := [.int (f_Sta_register ia g), .int (f_Sta_register ib g)]) (rest := []) (wr := [(aS, .inr (9, [.ref aG, .ref aX, .int nx, .int lt, .int sm, .int ex])), (aG, .inl (cG, 32, .inl g)), (aX, .inl (cX, 64, .inl sp)), (aI, .inr (5, [.int iw, .int io, .int id, .int ia, .int ib, .int ii, .int is, .int iu])), (aR, .inr (1, [.ref aS]))]) (wj := [(aS, .inr (9, [.ref aG, .ref aX, .int nx, .int lt, .int sm, .int ex])), (aG, .inl (cG, 32, .inl g)), (aX, .inl (cX, 64, .inl sp)), (aI, .inr (5, [.int iw, .int io, .int id, .int ia, .int ib, .int ii, .int is, .int iu])), (aR, .inr (1, [.ref aS]))]) ⟨hx, hb, hml, hown, hB⟩ (c_Ari_quotient l D (f_Sta_register ia g) (f_Sta_register ib g)) yl_Ari_quotient mw_508 hK hN hP hD hS hA [] [] [0, 1, 2, 3, 4] [0, 1, 2, 3, 4] rfl rfl rfl rfl (by decide +kernel) rfl hl.1 rfl (Nat.le_of_ble_eq_true rfl) ⟨Nat.le_of_ble_eq_true rfl, Nat.le_of_ble_eq_true rfl⟩ d_Ari_runsExtended_296 ⟨Nat.le_of_ble_eq_true rfl, Nat.le_of_ble_eq_true rfl⟩ (fun H locs hP hD hS => ?_)
                          refine lv_istore (lv' := [(4, .int (f_Ari_quotient (f_Sta_register ia g) (f_Sta_register ib g))), (3, .int (f_Sta_register ib g)), (2, .int (f_Sta_register ia g)), (0, .ref aR), (1, .ref aI)]) hx hb d_Ari_runsExtended_299 hl (by decide) rfl (fun ls hl => ?_)
                          refine lv_goto (tgt := 306) hx hb d_Ari_runsExtended_301 (by decide) ?_
                          refine lv_aload_n hx hb d_Ari_runsExtended_306 rfl (lv_at hl 3 rfl) ?_
                          refine va_get (D := D) (ci := 1) (v := .ref aS) (C := "MappedProcessor$Arithmetic") (T := T_Ari) (N := 1) hx hb hB iw_Ari hown hK hP 4 rfl rfl 0 (by decide) (hB _ mw_159) (fun _ h9 => h9) rfl d_Ari_runsExtended_307 ?_
                          refine lv_aload_n hx hb d_Ari_runsExtended_310 rfl (lv_at hl 4 rfl) ?_
                          refine va_get (D := D) (ci := 5) (v := .int id) (C := "MappedProcessor$Instruction") (T := T_Ins) (N := 8) hx hb hB iw_Ins hown hK hP 3 rfl rfl 2 (by decide) (hB _ mw_96) (fun _ h9 => h9) rfl d_Ari_runsExtended_311 ?_
                          refine lv_iload hx hb d_Ari_runsExtended_314 (lv_at hl 0 rfl) ?_
                          refine lv_aload_n hx hb d_Ari_runsExtended_316 rfl (lv_at hl 4 rfl) ?_
                          refine lv_iconst (v := (1 : Int32)) hx hb d_Ari_runsExtended_317 (by decide) ?_
                          refine k_cVi (As := [.int (1 : Int32)]) (rest := [.int (f_Ari_quotient (f_Sta_register ia g) (f_Sta_register ib g)), .int id, .ref aS]) (wr := [(aS, .inr (9, [.ref aG, .ref aX, .int nx, .int lt, .int sm, .int ex])), (aG, .inl (cG, 32, .inl g)), (aX, .inl (cX, 64, .inl sp)), (aR, .inr (1, [.ref aS]))]) (wj := [(aS, .inr (9, [.ref aG, .ref aX, .int nx, .int lt, .int sm, .int ex])), (aG, .inl (cG, 32, .inl g)), (aX, .inl (cX, 64, .inl sp)), (aI, .inr (5, [.int iw, .int io, .int id, .int ia, .int ib, .int ii, .int is, .int iu])), (aR, .inr (1, [.ref aS]))]) ⟨hx, hb, hml, hown, hB⟩ (c_Ins_has l D aI iw io id ia ib ii is iu (1 : Int32)) yl_Ins_has mw_512 hK hN hP hD hS hA [] [3] [0, 1, 2, 4] [0, 1, 2, 4, 3] rfl rfl rfl rfl (by decide +kernel) 0 rfl rfl rfl rfl hl.1 rfl (Nat.le_of_ble_eq_true rfl) ⟨Nat.le_of_ble_eq_true rfl, Nat.le_of_ble_eq_true rfl⟩ d_Ari_runsExtended_318 ⟨Nat.le_of_ble_eq_true rfl, Nat.le_of_ble_eq_true rfl⟩ (fun H locs hP hD hS => ?_)
                          let t33 := (f_Sta_keepResult id (f_Ari_quotient (f_Sta_register ia g) (f_Sta_register ib g)) (f_Ins_has (1 : Int32) iw) g sp)
                          refine k_cVv (As := [.int id, .int (f_Ari_quotient (f_Sta_register ia g) (f_Sta_register ib g)), .int (f_Ins_has (1 : Int32) iw)]) (rest := []) (wr := [(aI, .inr (5, [.int iw, .int io, .int id, .int ia, .int ib, .int ii, .int is, .int iu])), (aR, .inr (1, [.ref aS]))]) (wj := [(aS, .inr (9, [.ref aG, .ref aX, .int nx, .int lt, .int sm, .int ex])), (aG, .inl (cG, 32, .inl t33.1)), (aX, .inl (cX, 64, .inl t33.2)), (aI, .inr (5, [.int iw, .int io, .int id, .int ia, .int ib, .int ii, .int is, .int iu])), (aR, .inr (1, [.ref aS]))]) ⟨hx, hb, hml, hown, hB⟩ (c_Sta_keepResult l D aS aG aX cG cX g sp nx lt sm ex id (f_Ari_quotient (f_Sta_register ia g) (f_Sta_register ib g)) (f_Ins_has (1 : Int32) iw)) yl_Sta_keepResult mw_419 hK hN hP hD hS hA [0, 1] [0, 1, 2] [3, 4] [2, 3, 4, 0, 1] rfl rfl rfl rfl (by decide +kernel) 0 rfl rfl rfl rfl hl.1 rfl (Nat.le_of_ble_eq_true rfl) ⟨Nat.le_of_ble_eq_true rfl, Nat.le_of_ble_eq_true rfl⟩ d_Ari_runsExtended_321 ⟨Nat.le_of_ble_eq_true rfl, Nat.le_of_ble_eq_true rfl⟩ (fun H locs hP hD hS => ?_)
                          refine lv_iconst (v := (1 : Int32)) hx hb d_Ari_runsExtended_324 (by decide) ?_
                          have ef : f_Ari_runsExtended g sp iw id ia ib ii = ((1 : Int32), t33.1, t33.2) := by unfold f_Ari_runsExtended; try dsimp only; rw [if_neg h1, if_neg h4, if_neg h7, if_neg h9, if_neg h11, if_neg h13, if_neg h15, if_neg h18, if_neg h21, if_neg h23, if_neg h25, if_pos h32]
                          exact k_zret hx hb hr hlocks hK hP hD hS [0, 1, 2, 3, 4] rfl (by rw [ef] <;> rfl) (by rw [ef] <;> rfl) nb1 d_Ari_runsExtended_325
                        · refine lv_lookup (off := 276) (tgt := 304) hx hb d_Ari_runsExtended_28 (by decide) (by rw [lv_osw (k := (8 : Int32)) h1 (by decide), lv_osw (k := (10 : Int32)) h4 (by decide), lv_osw (k := (11 : Int32)) h7 (by decide), lv_osw (k := (40 : Int32)) h9 (by decide), lv_osw (k := (75 : Int32)) h11 (by decide), lv_osw (k := (104 : Int32)) h13 (by decide), lv_osw (k := (136 : Int32)) h15 (by decide), lv_osw (k := (138 : Int32)) h18 (by decide), lv_osw (k := (235 : Int32)) h21 (by decide), lv_osw (k := (266 : Int32)) h23 (by decide), lv_osw (k := (459 : Int32)) h25 (by decide), lv_osw (k := (491 : Int32)) h32 (by decide)]; rfl) (by decide) ?_
                          refine lv_iconst (v := (0 : Int32)) hx hb d_Ari_runsExtended_304 (by decide) ?_
                          have ef : f_Ari_runsExtended g sp iw id ia ib ii = ((0 : Int32), g, sp) := by unfold f_Ari_runsExtended; try dsimp only; rw [if_neg h1, if_neg h4, if_neg h7, if_neg h9, if_neg h11, if_neg h13, if_neg h15, if_neg h18, if_neg h21, if_neg h23, if_neg h25, if_neg h32]
                          exact k_zret hx hb hr hlocks hK hP hD hS [0, 1, 2, 3, 4] rfl (by rw [ef] <;> rfl) (by rw [ef] <;> rfl) nb0 d_Ari_runsExtended_305
/-! MappedProcessor$Logic.runsExtended(LMappedProcessor$Instruction;)Z -/
theorem d_Log_runsExtended_0 : decode b_Log_runsExtended 0 = .ok (.aload_n 0, 1) := by decide +kernel
theorem d_Log_runsExtended_1 : decode b_Log_runsExtended 1 = .ok (.getfield 7, 3) := by decide +kernel
theorem d_Log_runsExtended_4 : decode b_Log_runsExtended 4 = .ok (.aload_n 1, 1) := by decide +kernel
theorem d_Log_runsExtended_5 : decode b_Log_runsExtended 5 = .ok (.getfield 13, 3) := by decide +kernel
theorem d_Log_runsExtended_8 : decode b_Log_runsExtended 8 = .ok (.invokevirtual 19, 3) := by decide +kernel
theorem d_Log_runsExtended_11 : decode b_Log_runsExtended 11 = .ok (.istore_n 2, 1) := by decide +kernel
theorem d_Log_runsExtended_12 : decode b_Log_runsExtended 12 = .ok (.aload_n 0, 1) := by decide +kernel
theorem d_Log_runsExtended_13 : decode b_Log_runsExtended 13 = .ok (.getfield 7, 3) := by decide +kernel
theorem d_Log_runsExtended_16 : decode b_Log_runsExtended 16 = .ok (.aload_n 1, 1) := by decide +kernel
theorem d_Log_runsExtended_17 : decode b_Log_runsExtended 17 = .ok (.getfield 38, 3) := by decide +kernel
theorem d_Log_runsExtended_20 : decode b_Log_runsExtended 20 = .ok (.invokevirtual 19, 3) := by decide +kernel
theorem d_Log_runsExtended_23 : decode b_Log_runsExtended 23 = .ok (.istore_n 3, 1) := by decide +kernel
theorem d_Log_runsExtended_24 : decode b_Log_runsExtended 24 = .ok (.aload_n 1, 1) := by decide +kernel
theorem d_Log_runsExtended_25 : decode b_Log_runsExtended 25 = .ok (.getfield 57, 3) := by decide +kernel
theorem d_Log_runsExtended_28 : decode b_Log_runsExtended 28 = .ok (.lookupswitch 161 #[(26, 84), (28, 93), (60, 101), (124, 111), (316, 121), (444, 129), (476, 137), (922, 147), (954, 154)], 84) := by decide +kernel
theorem d_Log_runsExtended_112 : decode b_Log_runsExtended 112 = .ok (.iload_n 2, 1) := by decide +kernel
theorem d_Log_runsExtended_113 : decode b_Log_runsExtended 113 = .ok (.invokestatic 60, 3) := by decide +kernel
theorem d_Log_runsExtended_116 : decode b_Log_runsExtended 116 = .ok (.istore 4, 2) := by decide +kernel
theorem d_Log_runsExtended_118 : decode b_Log_runsExtended 118 = .ok (.goto 73, 3) := by decide +kernel
theorem d_Log_runsExtended_121 : decode b_Log_runsExtended 121 = .ok (.iload_n 2, 1) := by decide +kernel
theorem d_Log_runsExtended_122 : decode b_Log_runsExtended 122 = .ok (.iload_n 3, 1) := by decide +kernel
theorem d_Log_runsExtended_123 : decode b_Log_runsExtended 123 = .ok (.iand, 1) := by decide +kernel
theorem d_Log_runsExtended_124 : decode b_Log_runsExtended 124 = .ok (.istore 4, 2) := by decide +kernel
theorem d_Log_runsExtended_126 : decode b_Log_runsExtended 126 = .ok (.goto 65, 3) := by decide +kernel
theorem d_Log_runsExtended_129 : decode b_Log_runsExtended 129 = .ok (.iload_n 2, 1) := by decide +kernel
theorem d_Log_runsExtended_130 : decode b_Log_runsExtended 130 = .ok (.iload_n 3, 1) := by decide +kernel
theorem d_Log_runsExtended_131 : decode b_Log_runsExtended 131 = .ok (.iconst (-1), 1) := by decide +kernel
theorem d_Log_runsExtended_132 : decode b_Log_runsExtended 132 = .ok (.ixor, 1) := by decide +kernel
theorem d_Log_runsExtended_133 : decode b_Log_runsExtended 133 = .ok (.iand, 1) := by decide +kernel
theorem d_Log_runsExtended_134 : decode b_Log_runsExtended 134 = .ok (.istore 4, 2) := by decide +kernel
theorem d_Log_runsExtended_136 : decode b_Log_runsExtended 136 = .ok (.goto 55, 3) := by decide +kernel
theorem d_Log_runsExtended_139 : decode b_Log_runsExtended 139 = .ok (.iload_n 2, 1) := by decide +kernel
theorem d_Log_runsExtended_140 : decode b_Log_runsExtended 140 = .ok (.iload_n 3, 1) := by decide +kernel
theorem d_Log_runsExtended_141 : decode b_Log_runsExtended 141 = .ok (.ior, 1) := by decide +kernel
theorem d_Log_runsExtended_142 : decode b_Log_runsExtended 142 = .ok (.iconst (-1), 1) := by decide +kernel
theorem d_Log_runsExtended_143 : decode b_Log_runsExtended 143 = .ok (.ixor, 1) := by decide +kernel
theorem d_Log_runsExtended_144 : decode b_Log_runsExtended 144 = .ok (.istore 4, 2) := by decide +kernel
theorem d_Log_runsExtended_146 : decode b_Log_runsExtended 146 = .ok (.goto 45, 3) := by decide +kernel
theorem d_Log_runsExtended_149 : decode b_Log_runsExtended 149 = .ok (.iload_n 2, 1) := by decide +kernel
theorem d_Log_runsExtended_150 : decode b_Log_runsExtended 150 = .ok (.iload_n 3, 1) := by decide +kernel
theorem d_Log_runsExtended_151 : decode b_Log_runsExtended 151 = .ok (.ixor, 1) := by decide +kernel
theorem d_Log_runsExtended_152 : decode b_Log_runsExtended 152 = .ok (.istore 4, 2) := by decide +kernel
theorem d_Log_runsExtended_154 : decode b_Log_runsExtended 154 = .ok (.goto 37, 3) := by decide +kernel
theorem d_Log_runsExtended_157 : decode b_Log_runsExtended 157 = .ok (.iload_n 2, 1) := by decide +kernel
theorem d_Log_runsExtended_158 : decode b_Log_runsExtended 158 = .ok (.iload_n 3, 1) := by decide +kernel
theorem d_Log_runsExtended_159 : decode b_Log_runsExtended 159 = .ok (.ior, 1) := by decide +kernel
theorem d_Log_runsExtended_160 : decode b_Log_runsExtended 160 = .ok (.istore 4, 2) := by decide +kernel
theorem d_Log_runsExtended_162 : decode b_Log_runsExtended 162 = .ok (.goto 29, 3) := by decide +kernel
theorem d_Log_runsExtended_165 : decode b_Log_runsExtended 165 = .ok (.iload_n 2, 1) := by decide +kernel
theorem d_Log_runsExtended_166 : decode b_Log_runsExtended 166 = .ok (.iload_n 3, 1) := by decide +kernel
theorem d_Log_runsExtended_167 : decode b_Log_runsExtended 167 = .ok (.iand, 1) := by decide +kernel
theorem d_Log_runsExtended_168 : decode b_Log_runsExtended 168 = .ok (.iconst (-1), 1) := by decide +kernel
theorem d_Log_runsExtended_169 : decode b_Log_runsExtended 169 = .ok (.ixor, 1) := by decide +kernel
theorem d_Log_runsExtended_170 : decode b_Log_runsExtended 170 = .ok (.istore 4, 2) := by decide +kernel
theorem d_Log_runsExtended_172 : decode b_Log_runsExtended 172 = .ok (.goto 19, 3) := by decide +kernel
theorem d_Log_runsExtended_175 : decode b_Log_runsExtended 175 = .ok (.iload_n 2, 1) := by decide +kernel
theorem d_Log_runsExtended_176 : decode b_Log_runsExtended 176 = .ok (.i2s, 1) := by decide +kernel
theorem d_Log_runsExtended_177 : decode b_Log_runsExtended 177 = .ok (.istore 4, 2) := by decide +kernel
theorem d_Log_runsExtended_179 : decode b_Log_runsExtended 179 = .ok (.goto 12, 3) := by decide +kernel
theorem d_Log_runsExtended_182 : decode b_Log_runsExtended 182 = .ok (.iload_n 2, 1) := by decide +kernel
theorem d_Log_runsExtended_183 : decode b_Log_runsExtended 183 = .ok (.i2b, 1) := by decide +kernel
theorem d_Log_runsExtended_184 : decode b_Log_runsExtended 184 = .ok (.istore 4, 2) := by decide +kernel
theorem d_Log_runsExtended_186 : decode b_Log_runsExtended 186 = .ok (.goto 5, 3) := by decide +kernel
theorem d_Log_runsExtended_189 : decode b_Log_runsExtended 189 = .ok (.iconst 0, 1) := by decide +kernel
theorem d_Log_runsExtended_190 : decode b_Log_runsExtended 190 = .ok (.ireturn, 1) := by decide +kernel
theorem d_Log_runsExtended_191 : decode b_Log_runsExtended 191 = .ok (.aload_n 0, 1) := by decide +kernel
theorem d_Log_runsExtended_192 : decode b_Log_runsExtended 192 = .ok (.getfield 7, 3) := by decide +kernel
theorem d_Log_runsExtended_195 : decode b_Log_runsExtended 195 = .ok (.aload_n 1, 1) := by decide +kernel
theorem d_Log_runsExtended_196 : decode b_Log_runsExtended 196 = .ok (.getfield 31, 3) := by decide +kernel
theorem d_Log_runsExtended_199 : decode b_Log_runsExtended 199 = .ok (.iload 4, 2) := by decide +kernel
theorem d_Log_runsExtended_201 : decode b_Log_runsExtended 201 = .ok (.aload_n 1, 1) := by decide +kernel
theorem d_Log_runsExtended_202 : decode b_Log_runsExtended 202 = .ok (.iconst 1, 1) := by decide +kernel
theorem d_Log_runsExtended_203 : decode b_Log_runsExtended 203 = .ok (.invokevirtual 53, 3) := by decide +kernel
theorem d_Log_runsExtended_206 : decode b_Log_runsExtended 206 = .ok (.invokevirtual 34, 3) := by decide +kernel
theorem d_Log_runsExtended_209 : decode b_Log_runsExtended 209 = .ok (.iconst 1, 1) := by decide +kernel
theorem d_Log_runsExtended_210 : decode b_Log_runsExtended 210 = .ok (.ireturn, 1) := by decide +kernel
def f_Log_runsExtended (g : Nat → Int32) (sp : Nat → Int32) (iw : Int32) (id : Int32) (ia : Int32) (ib : Int32) (ii : Int32) : Int32 × (Nat → Int32) × (Nat → Int32) :=
  if ii = (26 : Int32) then
    let t2 := (f_Sta_keepResult ia (f_Int_numberOfLeadingZeros (f_Sta_register id g)) (f_Ins_has (1 : Int32) iw) g sp)
    ((1 : Int32), t2.1, t2.2)
  else
    if ii = (28 : Int32) then
      let t4 := (f_Sta_keepResult ia ((f_Sta_register id g) &&& (f_Sta_register ib g)) (f_Ins_has (1 : Int32) iw) g sp)
      ((1 : Int32), t4.1, t4.2)
    else
      if ii = (60 : Int32) then
        let t6 := (f_Sta_keepResult ia ((f_Sta_register id g) &&& ((f_Sta_register ib g) ^^^ (-1 : Int32))) (f_Ins_has (1 : Int32) iw) g sp)
        ((1 : Int32), t6.1, t6.2)
      else
        if ii = (124 : Int32) then
          let t8 := (f_Sta_keepResult ia (((f_Sta_register id g) ||| (f_Sta_register ib g)) ^^^ (-1 : Int32)) (f_Ins_has (1 : Int32) iw) g sp)
          ((1 : Int32), t8.1, t8.2)
        else
          if ii = (316 : Int32) then
            let t10 := (f_Sta_keepResult ia ((f_Sta_register id g) ^^^ (f_Sta_register ib g)) (f_Ins_has (1 : Int32) iw) g sp)
            ((1 : Int32), t10.1, t10.2)
          else
            if ii = (444 : Int32) then
              let t12 := (f_Sta_keepResult ia ((f_Sta_register id g) ||| (f_Sta_register ib g)) (f_Ins_has (1 : Int32) iw) g sp)
              ((1 : Int32), t12.1, t12.2)
            else
              if ii = (476 : Int32) then
                let t14 := (f_Sta_keepResult ia (((f_Sta_register id g) &&& (f_Sta_register ib g)) ^^^ (-1 : Int32)) (f_Ins_has (1 : Int32) iw) g sp)
                ((1 : Int32), t14.1, t14.2)
              else
                if ii = (922 : Int32) then
                  let t16 := (f_Sta_keepResult ia ((f_Sta_register id g).toInt16.toInt32) (f_Ins_has (1 : Int32) iw) g sp)
                  ((1 : Int32), t16.1, t16.2)
                else
                  if ii = (954 : Int32) then
                    let t18 := (f_Sta_keepResult ia ((f_Sta_register id g).toInt8.toInt32) (f_Ins_has (1 : Int32) iw) g sp)
                    ((1 : Int32), t18.1, t18.2)
                  else
                    ((0 : Int32), g, sp)
set_option maxHeartbeats 4000000 in
set_option maxRecDepth 100000 in
theorem ib_Log_runsExtended (g : Nat → Int32) (sp : Nat → Int32) (iw : Int32) (id : Int32) (ia : Int32) (ib : Int32) (ii : Int32) : isB (f_Log_runsExtended g sp iw id ia ib ii).1 := by
  unfold f_Log_runsExtended
  try dsimp only
  repeat' (first | refine ib_ite ?_ ?_ | refine ib_ite0 ?_ ?_ | with_reducible exact ib0 | with_reducible exact ib1 | with_reducible exact ib_Ins_has _ _ | (dsimp only; first | exact ib0 | exact ib1))
theorem nb_Log_runsExtended (g : Nat → Int32) (sp : Nat → Int32) (iw : Int32) (id : Int32) (ia : Int32) (ib : Int32) (ii : Int32) : narrow .boolean (.int (f_Log_runsExtended g sp iw id ia ib ii).1) = .int (f_Log_runsExtended g sp iw id ia ib ii).1 := nb_of (ib_Log_runsExtended g sp iw id ia ib ii)
set_option maxHeartbeats 4000000 in
set_option maxRecDepth 100000 in
theorem c_Log_runsExtended (l : Launch) (D : va_G) (aS aG aX aI aL : Nat) (cG cX : ClassId) (g : Nat → Int32) (sp : Nat → Int32) (nx : Int32) (lt : Int32) (sm : Int32) (ex : Int32) (iw : Int32) (io : Int32) (id : Int32) (ia : Int32) (ib : Int32) (ii : Int32) (is : Int32) (iu : Int32) (_q0 : Nat) : kMi l y_Log_runsExtended b_Log_runsExtended 5 (some .boolean) 2 51 D kCl [(cG, .int), (cX, .int)] [.ref aL, .ref aI] [(aS, .inr (9, [.ref aG, .ref aX, .int nx, .int lt, .int sm, .int ex])), (aG, .inl (cG, 32, .inl g)), (aX, .inl (cX, 64, .inl sp)), (aI, .inr (5, [.int iw, .int io, .int id, .int ia, .int ib, .int ii, .int is, .int iu])), (aL, .inr (6, [.ref aS]))] (f_Log_runsExtended g sp iw id ia ib ii).1 [(aS, .inr (9, [.ref aG, .ref aX, .int nx, .int lt, .int sm, .int ex])), (aG, .inl (cG, 32, .inl (f_Log_runsExtended g sp iw id ia ib ii).2.1)), (aX, .inl (cX, 64, .inl (f_Log_runsExtended g sp iw id ia ib ii).2.2)), (aI, .inr (5, [.int iw, .int io, .int id, .int ia, .int ib, .int ii, .int is, .int iu])), (aL, .inr (6, [.ref aS]))] := by
  refine k_entry (Qc := fun A => kQi D kCl [(cG, .int), (cX, .int)] (f_Log_runsExtended g sp iw id ia ib ii).1 [(aS, .inr (9, [.ref aG, .ref aX, .int nx, .int lt, .int sm, .int ex])), (aG, .inl (cG, 32, .inl (f_Log_runsExtended g sp iw id ia ib ii).2.1)), (aX, .inl (cX, 64, .inl (f_Log_runsExtended g sp iw id ia ib ii).2.2)), (aI, .inr (5, [.int iw, .int io, .int id, .int ia, .int ib, .int ii, .int is, .int iu])), (aL, .inr (6, [.ref aS]))] A) (lv := [(0, .ref aL), (1, .ref aI)]) (by decide) (Nat.le_of_ble_eq_true rfl) rfl ?_
  intro p e s m below meth c A ls hx hb hr hml hB hown hlocks hin hA hK hN hP hD hS hl
  have hown : s.vm.findClass "MappedProcessor$Logic" = some m.cls := hown
  refine lv_aload_n hx hb d_Log_runsExtended_0 rfl (lv_at hl 0 rfl) ?_
  refine va_get (D := D) (ci := 6) (v := .ref aS) (C := "MappedProcessor$Logic") (T := T_Log) (N := 1) hx hb hB iw_Log hown hK hP 4 rfl rfl 0 (by decide) (hB _ mw_169) (fun _ h9 => h9) rfl d_Log_runsExtended_1 ?_
  refine lv_aload_n hx hb d_Log_runsExtended_4 rfl (lv_at hl 1 rfl) ?_
  refine va_get (D := D) (ci := 5) (v := .int id) (C := "MappedProcessor$Instruction") (T := T_Ins) (N := 8) hx hb hB iw_Ins hown hK hP 3 rfl rfl 2 (by decide) (hB _ mw_90) (fun _ h9 => h9) rfl d_Log_runsExtended_5 ?_
  refine k_cVi (As := [.int id]) (rest := []) (wr := [(aI, .inr (5, [.int iw, .int io, .int id, .int ia, .int ib, .int ii, .int is, .int iu])), (aL, .inr (6, [.ref aS]))]) (wj := [(aS, .inr (9, [.ref aG, .ref aX, .int nx, .int lt, .int sm, .int ex])), (aG, .inl (cG, 32, .inl g)), (aX, .inl (cX, 64, .inl sp)), (aI, .inr (5, [.int iw, .int io, .int id, .int ia, .int ib, .int ii, .int is, .int iu])), (aL, .inr (6, [.ref aS]))]) ⟨hx, hb, hml, hown, hB⟩ (c_Sta_register l D aS aG aX cG cX g sp nx lt sm ex id) yl_Sta_register mw_483 hK hN hP hD hS hA [0, 1] [0, 1, 2] [3, 4] [2, 3, 4, 0, 1] rfl rfl rfl rfl (by decide +kernel) 0 rfl rfl rfl rfl hl.1 rfl (Nat.le_of_ble_eq_true rfl) ⟨Nat.le_of_ble_eq_true rfl, Nat.le_of_ble_eq_true rfl⟩ d_Log_runsExtended_8 ⟨Nat.le_of_ble_eq_true rfl, Nat.le_of_ble_eq_true rfl⟩ (fun H locs hP hD hS => ?_)
  refine lv_istore_n (lv' := [(2, .int (f_Sta_register id g)), (0, .ref aL), (1, .ref aI)]) hx hb d_Log_runsExtended_11 rfl hl (by decide) rfl (fun ls hl => ?_)
  refine lv_aload_n hx hb d_Log_runsExtended_12 rfl (lv_at hl 1 rfl) ?_
  refine va_get (D := D) (ci := 6) (v := .ref aS) (C := "MappedProcessor$Logic") (T := T_Log) (N := 1) hx hb hB iw_Log hown hK hP 4 rfl rfl 0 (by decide) (hB _ mw_169) (fun _ h9 => h9) rfl d_Log_runsExtended_13 ?_
  refine lv_aload_n hx hb d_Log_runsExtended_16 rfl (lv_at hl 2 rfl) ?_
  refine va_get (D := D) (ci := 5) (v := .int ib) (C := "MappedProcessor$Instruction") (T := T_Ins) (N := 8) hx hb hB iw_Ins hown hK hP 3 rfl rfl 4 (by decide) (hB _ mw_105) (fun _ h9 => h9) rfl d_Log_runsExtended_17 ?_
  refine k_cVi (As := [.int ib]) (rest := []) (wr := [(aI, .inr (5, [.int iw, .int io, .int id, .int ia, .int ib, .int ii, .int is, .int iu])), (aL, .inr (6, [.ref aS]))]) (wj := [(aS, .inr (9, [.ref aG, .ref aX, .int nx, .int lt, .int sm, .int ex])), (aG, .inl (cG, 32, .inl g)), (aX, .inl (cX, 64, .inl sp)), (aI, .inr (5, [.int iw, .int io, .int id, .int ia, .int ib, .int ii, .int is, .int iu])), (aL, .inr (6, [.ref aS]))]) ⟨hx, hb, hml, hown, hB⟩ (c_Sta_register l D aS aG aX cG cX g sp nx lt sm ex ib) yl_Sta_register mw_483 hK hN hP hD hS hA [0, 1] [0, 1, 2] [3, 4] [2, 3, 4, 0, 1] rfl rfl rfl rfl (by decide +kernel) 0 rfl rfl rfl rfl hl.1 rfl (Nat.le_of_ble_eq_true rfl) ⟨Nat.le_of_ble_eq_true rfl, Nat.le_of_ble_eq_true rfl⟩ d_Log_runsExtended_20 ⟨Nat.le_of_ble_eq_true rfl, Nat.le_of_ble_eq_true rfl⟩ (fun H locs hP hD hS => ?_)
  refine lv_istore_n (lv' := [(3, .int (f_Sta_register ib g)), (2, .int (f_Sta_register id g)), (0, .ref aL), (1, .ref aI)]) hx hb d_Log_runsExtended_23 rfl hl (by decide) rfl (fun ls hl => ?_)
  refine lv_aload_n hx hb d_Log_runsExtended_24 rfl (lv_at hl 3 rfl) ?_
  refine va_get (D := D) (ci := 5) (v := .int ii) (C := "MappedProcessor$Instruction") (T := T_Ins) (N := 8) hx hb hB iw_Ins hown hK hP 3 rfl rfl 5 (by decide) (hB _ mw_117) (fun _ h9 => h9) rfl d_Log_runsExtended_25 ?_
  by_cases h1 : ii = (26 : Int32)
  · refine lv_lookup (off := 84) (tgt := 112) hx hb d_Log_runsExtended_28 (by decide) (by have hq9 := h1 <;> rw [hq9] <;> rfl) (by decide) ?_
    refine lv_iload_n hx hb d_Log_runsExtended_112 rfl (lv_at hl 1 rfl) ?_
    refine k_cSi (As := [.int (f_Sta_register id g)]) (rest := []) (wr := [(aS, .inr (9, [.ref aG, .ref aX, .int nx, .int lt, .int sm, .int ex])), (aG, .inl (cG, 32, .inl g)), (aX, .inl (cX, 64, .inl sp)), (aI, .inr (5, [.int iw, .int io, .int id, .int ia, .int ib, .int ii, .int is, .int iu])), (aL, .inr (6, [.ref aS]))]) (wj := [(aS, .inr (9, [.ref aG, .ref aX, .int nx, .int lt, .int sm, .int ex])), (aG, .inl (cG, 32, .inl g)), (aX, .inl (cX, 64, .inl sp)), (aI, .inr (5, [.int iw, .int io, .int id, .int ia, .int ib, .int ii, .int is, .int iu])), (aL, .inr (6, [.ref aS]))]) ⟨hx, hb, hml, hown, hB⟩ (c_Int_numberOfLeadingZeros l D (f_Sta_register id g)) yl_Int_numberOfLeadingZeros mw_517 hK hN hP hD hS hA [] [] [0, 1, 2, 3, 4] [0, 1, 2, 3, 4] rfl rfl rfl rfl (by decide +kernel) rfl hl.1 rfl (Nat.le_of_ble_eq_true rfl) ⟨Nat.le_of_ble_eq_true rfl, Nat.le_of_ble_eq_true rfl⟩ d_Log_runsExtended_113 ⟨Nat.le_of_ble_eq_true rfl, Nat.le_of_ble_eq_true rfl⟩ (fun H locs hP hD hS => ?_)
    refine lv_istore (lv' := [(4, .int (f_Int_numberOfLeadingZeros (f_Sta_register id g))), (3, .int (f_Sta_register ib g)), (2, .int (f_Sta_register id g)), (0, .ref aL), (1, .ref aI)]) hx hb d_Log_runsExtended_116 hl (by decide) rfl (fun ls hl => ?_)
    refine lv_goto (tgt := 191) hx hb d_Log_runsExtended_118 (by decide) ?_
    refine lv_aload_n hx hb d_Log_runsExtended_191 rfl (lv_at hl 3 rfl) ?_
    refine va_get (D := D) (ci := 6) (v := .ref aS) (C := "MappedProcessor$Logic") (T := T_Log) (N := 1) hx hb hB iw_Log hown hK hP 4 rfl rfl 0 (by decide) (hB _ mw_169) (fun _ h9 => h9) rfl d_Log_runsExtended_192 ?_
    refine lv_aload_n hx hb d_Log_runsExtended_195 rfl (lv_at hl 4 rfl) ?_
    refine va_get (D := D) (ci := 5) (v := .int ia) (C := "MappedProcessor$Instruction") (T := T_Ins) (N := 8) hx hb hB iw_Ins hown hK hP 3 rfl rfl 3 (by decide) (hB _ mw_102) (fun _ h9 => h9) rfl d_Log_runsExtended_196 ?_
    refine lv_iload hx hb d_Log_runsExtended_199 (lv_at hl 0 rfl) ?_
    refine lv_aload_n hx hb d_Log_runsExtended_201 rfl (lv_at hl 4 rfl) ?_
    refine lv_iconst (v := (1 : Int32)) hx hb d_Log_runsExtended_202 (by decide) ?_
    refine k_cVi (As := [.int (1 : Int32)]) (rest := [.int (f_Int_numberOfLeadingZeros (f_Sta_register id g)), .int ia, .ref aS]) (wr := [(aS, .inr (9, [.ref aG, .ref aX, .int nx, .int lt, .int sm, .int ex])), (aG, .inl (cG, 32, .inl g)), (aX, .inl (cX, 64, .inl sp)), (aL, .inr (6, [.ref aS]))]) (wj := [(aS, .inr (9, [.ref aG, .ref aX, .int nx, .int lt, .int sm, .int ex])), (aG, .inl (cG, 32, .inl g)), (aX, .inl (cX, 64, .inl sp)), (aI, .inr (5, [.int iw, .int io, .int id, .int ia, .int ib, .int ii, .int is, .int iu])), (aL, .inr (6, [.ref aS]))]) ⟨hx, hb, hml, hown, hB⟩ (c_Ins_has l D aI iw io id ia ib ii is iu (1 : Int32)) yl_Ins_has mw_490 hK hN hP hD hS hA [] [3] [0, 1, 2, 4] [0, 1, 2, 4, 3] rfl rfl rfl rfl (by decide +kernel) 0 rfl rfl rfl rfl hl.1 rfl (Nat.le_of_ble_eq_true rfl) ⟨Nat.le_of_ble_eq_true rfl, Nat.le_of_ble_eq_true rfl⟩ d_Log_runsExtended_203 ⟨Nat.le_of_ble_eq_true rfl, Nat.le_of_ble_eq_true rfl⟩ (fun H locs hP hD hS => ?_)
    let t2 := (f_Sta_keepResult ia (f_Int_numberOfLeadingZeros (f_Sta_register id g)) (f_Ins_has (1 : Int32) iw) g sp)
    refine k_cVv (As := [.int ia, .int (f_Int_numberOfLeadingZeros (f_Sta_register id g)), .int (f_Ins_has (1 : Int32) iw)]) (rest := []) (wr := [(aI, .inr (5, [.int iw, .int io, .int id, .int ia, .int ib, .int ii, .int is, .int iu])), (aL, .inr (6, [.ref aS]))]) (wj := [(aS, .inr (9, [.ref aG, .ref aX, .int nx, .int lt, .int sm, .int ex])), (aG, .inl (cG, 32, .inl t2.1)), (aX, .inl (cX, 64, .inl t2.2)), (aI, .inr (5, [.int iw, .int io, .int id, .int ia, .int ib, .int ii, .int is, .int iu])), (aL, .inr (6, [.ref aS]))]) ⟨hx, hb, hml, hown, hB⟩ (c_Sta_keepResult l D aS aG aX cG cX g sp nx lt sm ex ia (f_Int_numberOfLeadingZeros (f_Sta_register id g)) (f_Ins_has (1 : Int32) iw)) yl_Sta_keepResult mw_491 hK hN hP hD hS hA [0, 1] [0, 1, 2] [3, 4] [2, 3, 4, 0, 1] rfl rfl rfl rfl (by decide +kernel) 0 rfl rfl rfl rfl hl.1 rfl (Nat.le_of_ble_eq_true rfl) ⟨Nat.le_of_ble_eq_true rfl, Nat.le_of_ble_eq_true rfl⟩ d_Log_runsExtended_206 ⟨Nat.le_of_ble_eq_true rfl, Nat.le_of_ble_eq_true rfl⟩ (fun H locs hP hD hS => ?_)
    refine lv_iconst (v := (1 : Int32)) hx hb d_Log_runsExtended_209 (by decide) ?_
    have ef : f_Log_runsExtended g sp iw id ia ib ii = ((1 : Int32), t2.1, t2.2) := by unfold f_Log_runsExtended; try dsimp only; rw [if_pos h1]
    exact k_zret hx hb hr hlocks hK hP hD hS [0, 1, 2, 3, 4] rfl (by rw [ef] <;> rfl) (by rw [ef] <;> rfl) nb1 d_Log_runsExtended_210
  · by_cases h3 : ii = (28 : Int32)
    · refine lv_lookup (off := 93) (tgt := 121) hx hb d_Log_runsExtended_28 (by decide) (by have hq9 := h3 <;> rw [hq9] <;> rfl) (by decide) ?_
      refine lv_iload_n hx hb d_Log_runsExtended_121 rfl (lv_at hl 1 rfl) ?_
      refine lv_iload_n hx hb d_Log_runsExtended_122 rfl (lv_at hl 0 rfl) ?_
      refine lv_iand hx hb d_Log_runsExtended_123 ?_
      refine lv_istore (lv' := [(4, .int ((f_Sta_register id g) &&& (f_Sta_register ib g))), (3, .int (f_Sta_register ib g)), (2, .int (f_Sta_register id g)), (0, .ref aL), (1, .ref aI)]) hx hb d_Log_runsExtended_124 hl (by decide) rfl (fun ls hl => ?_)
      refine lv_goto (tgt := 191) hx hb d_Log_runsExtended_126 (by decide) ?_
      refine lv_aload_n hx hb d_Log_runsExtended_191 rfl (lv_at hl 3 rfl) ?_
      refine va_get (D := D) (ci := 6) (v := .ref aS) (C := "MappedProcessor$Logic") (T := T_Log) (N := 1) hx hb hB iw_Log hown hK hP 4 rfl rfl 0 (by decide) (hB _ mw_169) (fun _ h9 => h9) rfl d_Log_runsExtended_192 ?_
      refine lv_aload_n hx hb d_Log_runsExtended_195 rfl (lv_at hl 4 rfl) ?_
      refine va_get (D := D) (ci := 5) (v := .int ia) (C := "MappedProcessor$Instruction") (T := T_Ins) (N := 8) hx hb hB iw_Ins hown hK hP 3 rfl rfl 3 (by decide) (hB _ mw_102) (fun _ h9 => h9) rfl d_Log_runsExtended_196 ?_
      refine lv_iload hx hb d_Log_runsExtended_199 (lv_at hl 0 rfl) ?_
      refine lv_aload_n hx hb d_Log_runsExtended_201 rfl (lv_at hl 4 rfl) ?_
      refine lv_iconst (v := (1 : Int32)) hx hb d_Log_runsExtended_202 (by decide) ?_
      refine k_cVi (As := [.int (1 : Int32)]) (rest := [.int ((f_Sta_register id g) &&& (f_Sta_register ib g)), .int ia, .ref aS]) (wr := [(aS, .inr (9, [.ref aG, .ref aX, .int nx, .int lt, .int sm, .int ex])), (aG, .inl (cG, 32, .inl g)), (aX, .inl (cX, 64, .inl sp)), (aL, .inr (6, [.ref aS]))]) (wj := [(aS, .inr (9, [.ref aG, .ref aX, .int nx, .int lt, .int sm, .int ex])), (aG, .inl (cG, 32, .inl g)), (aX, .inl (cX, 64, .inl sp)), (aI, .inr (5, [.int iw, .int io, .int id, .int ia, .int ib, .int ii, .int is, .int iu])), (aL, .inr (6, [.ref aS]))]) ⟨hx, hb, hml, hown, hB⟩ (c_Ins_has l D aI iw io id ia ib ii is iu (1 : Int32)) yl_Ins_has mw_490 hK hN hP hD hS hA [] [3] [0, 1, 2, 4] [0, 1, 2, 4, 3] rfl rfl rfl rfl (by decide +kernel) 0 rfl rfl rfl rfl hl.1 rfl (Nat.le_of_ble_eq_true rfl) ⟨Nat.le_of_ble_eq_true rfl, Nat.le_of_ble_eq_true rfl⟩ d_Log_runsExtended_203 ⟨Nat.le_of_ble_eq_true rfl, Nat.le_of_ble_eq_true rfl⟩ (fun H locs hP hD hS => ?_)
      let t4 := (f_Sta_keepResult ia ((f_Sta_register id g) &&& (f_Sta_register ib g)) (f_Ins_has (1 : Int32) iw) g sp)
      refine k_cVv (As := [.int ia, .int ((f_Sta_register id g) &&& (f_Sta_register ib g)), .int (f_Ins_has (1 : Int32) iw)]) (rest := []) (wr := [(aI, .inr (5, [.int iw, .int io, .int id, .int ia, .int ib, .int ii, .int is, .int iu])), (aL, .inr (6, [.ref aS]))]) (wj := [(aS, .inr (9, [.ref aG, .ref aX, .int nx, .int lt, .int sm, .int ex])), (aG, .inl (cG, 32, .inl t4.1)), (aX, .inl (cX, 64, .inl t4.2)), (aI, .inr (5, [.int iw, .int io, .int id, .int ia, .int ib, .int ii, .int is, .int iu])), (aL, .inr (6, [.ref aS]))]) ⟨hx, hb, hml, hown, hB⟩ (c_Sta_keepResult l D aS aG aX cG cX g sp nx lt sm ex ia ((f_Sta_register id g) &&& (f_Sta_register ib g)) (f_Ins_has (1 : Int32) iw)) yl_Sta_keepResult mw_491 hK hN hP hD hS hA [0, 1] [0, 1, 2] [3, 4] [2, 3, 4, 0, 1] rfl rfl rfl rfl (by decide +kernel) 0 rfl rfl rfl rfl hl.1 rfl (Nat.le_of_ble_eq_true rfl) ⟨Nat.le_of_ble_eq_true rfl, Nat.le_of_ble_eq_true rfl⟩ d_Log_runsExtended_206 ⟨Nat.le_of_ble_eq_true rfl, Nat.le_of_ble_eq_true rfl⟩ (fun H locs hP hD hS => ?_)
      refine lv_iconst (v := (1 : Int32)) hx hb d_Log_runsExtended_209 (by decide) ?_
      have ef : f_Log_runsExtended g sp iw id ia ib ii = ((1 : Int32), t4.1, t4.2) := by unfold f_Log_runsExtended; try dsimp only; rw [if_neg h1, if_pos h3]
      exact k_zret hx hb hr hlocks hK hP hD hS [0, 1, 2, 3, 4] rfl (by rw [ef] <;> rfl) (by rw [ef] <;> rfl) nb1 d_Log_runsExtended_210
    · by_cases h5 : ii = (60 : Int32)
      · refine lv_lookup (off := 101) (tgt := 129) hx hb d_Log_runsExtended_28 (by decide) (by have hq9 := h5 <;> rw [hq9] <;> rfl) (by decide) ?_
        refine lv_iload_n hx hb d_Log_runsExtended_129 rfl (lv_at hl 1 rfl) ?_
        refine lv_iload_n hx hb d_Log_runsExtended_130 rfl (lv_at hl 0 rfl) ?_
        refine lv_iconst (v := (-1 : Int32)) hx hb d_Log_runsExtended_131 (by decide) ?_
        refine lv_ixor hx hb d_Log_runsExtended_132 ?_
        refine lv_iand hx hb d_Log_runsExtended_133 ?_
        refine lv_istore (lv' := [(4, .int ((f_Sta_register id g) &&& ((f_Sta_register ib g) ^^^ (-1 : Int32)))), (3, .int (f_Sta_register ib g)), (2, .int (f_Sta_register id g)), (0, .ref aL), (1, .ref aI)]) hx hb d_Log_runsExtended_134 hl (by decide) rfl (fun ls hl => ?_)
        refine lv_goto (tgt := 191) hx hb d_Log_runsExtended_136 (by decide) ?_
        refine lv_aload_n hx hb d_Log_runsExtended_191 rfl (lv_at hl 3 rfl) ?_
        refine va_get (D := D) (ci := 6) (v := .ref aS) (C := "MappedProcessor$Logic") (T := T_Log) (N := 1) hx hb hB iw_Log hown hK hP 4 rfl rfl 0 (by decide) (hB _ mw_169) (fun _ h9 => h9) rfl d_Log_runsExtended_192 ?_
        refine lv_aload_n hx hb d_Log_runsExtended_195 rfl (lv_at hl 4 rfl) ?_
        refine va_get (D := D) (ci := 5) (v := .int ia) (C := "MappedProcessor$Instruction") (T := T_Ins) (N := 8) hx hb hB iw_Ins hown hK hP 3 rfl rfl 3 (by decide) (hB _ mw_102) (fun _ h9 => h9) rfl d_Log_runsExtended_196 ?_
        refine lv_iload hx hb d_Log_runsExtended_199 (lv_at hl 0 rfl) ?_
        refine lv_aload_n hx hb d_Log_runsExtended_201 rfl (lv_at hl 4 rfl) ?_
        refine lv_iconst (v := (1 : Int32)) hx hb d_Log_runsExtended_202 (by decide) ?_
        refine k_cVi (As := [.int (1 : Int32)]) (rest := [.int ((f_Sta_register id g) &&& ((f_Sta_register ib g) ^^^ (-1 : Int32))), .int ia, .ref aS]) (wr := [(aS, .inr (9, [.ref aG, .ref aX, .int nx, .int lt, .int sm, .int ex])), (aG, .inl (cG, 32, .inl g)), (aX, .inl (cX, 64, .inl sp)), (aL, .inr (6, [.ref aS]))]) (wj := [(aS, .inr (9, [.ref aG, .ref aX, .int nx, .int lt, .int sm, .int ex])), (aG, .inl (cG, 32, .inl g)), (aX, .inl (cX, 64, .inl sp)), (aI, .inr (5, [.int iw, .int io, .int id, .int ia, .int ib, .int ii, .int is, .int iu])), (aL, .inr (6, [.ref aS]))]) ⟨hx, hb, hml, hown, hB⟩ (c_Ins_has l D aI iw io id ia ib ii is iu (1 : Int32)) yl_Ins_has mw_490 hK hN hP hD hS hA [] [3] [0, 1, 2, 4] [0, 1, 2, 4, 3] rfl rfl rfl rfl (by decide +kernel) 0 rfl rfl rfl rfl hl.1 rfl (Nat.le_of_ble_eq_true rfl) ⟨Nat.le_of_ble_eq_true rfl, Nat.le_of_ble_eq_true rfl⟩ d_Log_runsExtended_203 ⟨Nat.le_of_ble_eq_true rfl, Nat.le_of_ble_eq_true rfl⟩ (fun H locs hP hD hS => ?_)
        let t6 := (f_Sta_keepResult ia ((f_Sta_register id g) &&& ((f_Sta_register ib g) ^^^ (-1 : Int32))) (f_Ins_has (1 : Int32) iw) g sp)
        refine k_cVv (As := [.int ia, .int ((f_Sta_register id g) &&& ((f_Sta_register ib g) ^^^ (-1 : Int32))), .int (f_Ins_has (1 : Int32) iw)]) (rest := []) (wr := [(aI, .inr (5, [.int iw, .int io, .int id, .int ia, .int ib, .int ii, .int is, .int iu])), (aL, .inr (6, [.ref aS]))]) (wj := [(aS, .inr (9, [.ref aG, .ref aX, .int nx, .int lt, .int sm, .int ex])), (aG, .inl (cG, 32, .inl t6.1)), (aX, .inl (cX, 64, .inl t6.2)), (aI, .inr (5, [.int iw, .int io, .int id, .int ia, .int ib, .int ii, .int is, .int iu])), (aL, .inr (6, [.ref aS]))]) ⟨hx, hb, hml, hown, hB⟩ (c_Sta_keepResult l D aS aG aX cG cX g sp nx lt sm ex ia ((f_Sta_register id g) &&& ((f_Sta_register ib g) ^^^ (-1 : Int32))) (f_Ins_has (1 : Int32) iw)) yl_Sta_keepResult mw_491 hK hN hP hD hS hA [0, 1] [0, 1, 2] [3, 4] [2, 3, 4, 0, 1] rfl rfl rfl rfl (by decide +kernel) 0 rfl rfl rfl rfl hl.1 rfl (Nat.le_of_ble_eq_true rfl) ⟨Nat.le_of_ble_eq_true rfl, Nat.le_of_ble_eq_true rfl⟩ d_Log_runsExtended_206 ⟨Nat.le_of_ble_eq_true rfl, Nat.le_of_ble_eq_true rfl⟩ (fun H locs hP hD hS => ?_)
        refine lv_iconst (v := (1 : Int32)) hx hb d_Log_runsExtended_209 (by decide) ?_
        have ef : f_Log_runsExtended g sp iw id ia ib ii = ((1 : Int32), t6.1, t6.2) := by unfold f_Log_runsExtended; try dsimp only; rw [if_neg h1, if_neg h3, if_pos h5]
        exact k_zret hx hb hr hlocks hK hP hD hS [0, 1, 2, 3, 4] rfl (by rw [ef] <;> rfl) (by rw [ef] <;> rfl) nb1 d_Log_runsExtended_210
      · by_cases h7 : ii = (124 : Int32)
        · refine lv_lookup (off := 111) (tgt := 139) hx hb d_Log_runsExtended_28 (by decide) (by have hq9 := h7 <;> rw [hq9] <;> rfl) (by decide) ?_
          refine lv_iload_n hx hb d_Log_runsExtended_139 rfl (lv_at hl 1 rfl) ?_
          refine lv_iload_n hx hb d_Log_runsExtended_140 rfl (lv_at hl 0 rfl) ?_
          refine lv_ior hx hb d_Log_runsExtended_141 ?_
          refine lv_iconst (v := (-1 : Int32)) hx hb d_Log_runsExtended_142 (by decide) ?_
          refine lv_ixor hx hb d_Log_runsExtended_143 ?_
          refine lv_istore (lv' := [(4, .int (((f_Sta_register id g) ||| (f_Sta_register ib g)) ^^^ (-1 : Int32))), (3, .int (f_Sta_register ib g)), (2, .int (f_Sta_register id g)), (0, .ref aL), (1, .ref aI)]) hx hb d_Log_runsExtended_144 hl (by decide) rfl (fun ls hl => ?_)
          refine lv_goto (tgt := 191) hx hb d_Log_runsExtended_146 (by decide) ?_
          refine lv_aload_n hx hb d_Log_runsExtended_191 rfl (lv_at hl 3 rfl) ?_
          refine va_get (D := D) (ci := 6) (v := .ref aS) (C := "MappedProcessor$Logic") (T := T_Log) (N := 1) hx hb hB iw_Log hown hK hP 4 rfl rfl 0 (by decide) (hB _ mw_169) (fun _ h9 => h9) rfl d_Log_runsExtended_192 ?_
          refine lv_aload_n hx hb d_Log_runsExtended_195 rfl (lv_at hl 4 rfl) ?_
          refine va_get (D := D) (ci := 5) (v := .int ia) (C := "MappedProcessor$Instruction") (T := T_Ins) (N := 8) hx hb hB iw_Ins hown hK hP 3 rfl rfl 3 (by decide) (hB _ mw_102) (fun _ h9 => h9) rfl d_Log_runsExtended_196 ?_
          refine lv_iload hx hb d_Log_runsExtended_199 (lv_at hl 0 rfl) ?_
          refine lv_aload_n hx hb d_Log_runsExtended_201 rfl (lv_at hl 4 rfl) ?_
          refine lv_iconst (v := (1 : Int32)) hx hb d_Log_runsExtended_202 (by decide) ?_
          refine k_cVi (As := [.int (1 : Int32)]) (rest := [.int (((f_Sta_register id g) ||| (f_Sta_register ib g)) ^^^ (-1 : Int32)), .int ia, .ref aS]) (wr := [(aS, .inr (9, [.ref aG, .ref aX, .int nx, .int lt, .int sm, .int ex])), (aG, .inl (cG, 32, .inl g)), (aX, .inl (cX, 64, .inl sp)), (aL, .inr (6, [.ref aS]))]) (wj := [(aS, .inr (9, [.ref aG, .ref aX, .int nx, .int lt, .int sm, .int ex])), (aG, .inl (cG, 32, .inl g)), (aX, .inl (cX, 64, .inl sp)), (aI, .inr (5, [.int iw, .int io, .int id, .int ia, .int ib, .int ii, .int is, .int iu])), (aL, .inr (6, [.ref aS]))]) ⟨hx, hb, hml, hown, hB⟩ (c_Ins_has l D aI iw io id ia ib ii is iu (1 : Int32)) yl_Ins_has mw_490 hK hN hP hD hS hA [] [3] [0, 1, 2, 4] [0, 1, 2, 4, 3] rfl rfl rfl rfl (by decide +kernel) 0 rfl rfl rfl rfl hl.1 rfl (Nat.le_of_ble_eq_true rfl) ⟨Nat.le_of_ble_eq_true rfl, Nat.le_of_ble_eq_true rfl⟩ d_Log_runsExtended_203 ⟨Nat.le_of_ble_eq_true rfl, Nat.le_of_ble_eq_true rfl⟩ (fun H locs hP hD hS => ?_)
          let t8 := (f_Sta_keepResult ia (((f_Sta_register id g) ||| (f_Sta_register ib g)) ^^^ (-1 : Int32)) (f_Ins_has (1 : Int32) iw) g sp)
          refine k_cVv (As := [.int ia, .int (((f_Sta_register id g) ||| (f_Sta_register ib g)) ^^^ (-1 : Int32)), .int (f_Ins_has (1 : Int32) iw)]) (rest := []) (wr := [(aI, .inr (5, [.int iw, .int io, .int id, .int ia, .int ib, .int ii, .int is, .int iu])), (aL, .inr (6, [.ref aS]))]) (wj := [(aS, .inr (9, [.ref aG, .ref aX, .int nx, .int lt, .int sm, .int ex])), (aG, .inl (cG, 32, .inl t8.1)), (aX, .inl (cX, 64, .inl t8.2)), (aI, .inr (5, [.int iw, .int io, .int id, .int ia, .int ib, .int ii, .int is, .int iu])), (aL, .inr (6, [.ref aS]))]) ⟨hx, hb, hml, hown, hB⟩ (c_Sta_keepResult l D aS aG aX cG cX g sp nx lt sm ex ia (((f_Sta_register id g) ||| (f_Sta_register ib g)) ^^^ (-1 : Int32)) (f_Ins_has (1 : Int32) iw)) yl_Sta_keepResult mw_491 hK hN hP hD hS hA [0, 1] [0, 1, 2] [3, 4] [2, 3, 4, 0, 1] rfl rfl rfl rfl (by decide +kernel) 0 rfl rfl rfl rfl hl.1 rfl (Nat.le_of_ble_eq_true rfl) ⟨Nat.le_of_ble_eq_true rfl, Nat.le_of_ble_eq_true rfl⟩ d_Log_runsExtended_206 ⟨Nat.le_of_ble_eq_true rfl, Nat.le_of_ble_eq_true rfl⟩ (fun H locs hP hD hS => ?_)
          refine lv_iconst (v := (1 : Int32)) hx hb d_Log_runsExtended_209 (by decide) ?_
          have ef : f_Log_runsExtended g sp iw id ia ib ii = ((1 : Int32), t8.1, t8.2) := by unfold f_Log_runsExtended; try dsimp only; rw [if_neg h1, if_neg h3, if_neg h5, if_pos h7]
          exact k_zret hx hb hr hlocks hK hP hD hS [0, 1, 2, 3, 4] rfl (by rw [ef] <;> rfl) (by rw [ef] <;> rfl) nb1 d_Log_runsExtended_210
        · by_cases h9 : ii = (316 : Int32)
          · refine lv_lookup (off := 121) (tgt := 149) hx hb d_Log_runsExtended_28 (by decide) (by have hq9 := h9 <;> rw [hq9] <;> rfl) (by decide) ?_
            refine lv_iload_n hx hb d_Log_runsExtended_149 rfl (lv_at hl 1 rfl) ?_
            refine lv_iload_n hx hb d_Log_runsExtended_150 rfl (lv_at hl 0 rfl) ?_
            refine lv_ixor hx hb d_Log_runsExtended_151 ?_
            refine lv_istore (lv' := [(4, .int ((f_Sta_register id g) ^^^ (f_Sta_register ib g))), (3, .int (f_Sta_register ib g)), (2, .int (f_Sta_register id g)), (0, .ref aL), (1, .ref aI)]) hx hb d_Log_runsExtended_152 hl (by decide) rfl (fun ls hl => ?_)
            refine lv_goto (tgt := 191) hx hb d_Log_runsExtended_154 (by decide) ?_
            refine lv_aload_n hx hb d_Log_runsExtended_191 rfl (lv_at hl 3 rfl) ?_
            refine va_get (D := D) (ci := 6) (v := .ref aS) (C := "MappedProcessor$Logic") (T := T_Log) (N := 1) hx hb hB iw_Log hown hK hP 4 rfl rfl 0 (by decide) (hB _ mw_169) (fun _ h9 => h9) rfl d_Log_runsExtended_192 ?_
            refine lv_aload_n hx hb d_Log_runsExtended_195 rfl (lv_at hl 4 rfl) ?_
            refine va_get (D := D) (ci := 5) (v := .int ia) (C := "MappedProcessor$Instruction") (T := T_Ins) (N := 8) hx hb hB iw_Ins hown hK hP 3 rfl rfl 3 (by decide) (hB _ mw_102) (fun _ h9 => h9) rfl d_Log_runsExtended_196 ?_
            refine lv_iload hx hb d_Log_runsExtended_199 (lv_at hl 0 rfl) ?_
            refine lv_aload_n hx hb d_Log_runsExtended_201 rfl (lv_at hl 4 rfl) ?_
            refine lv_iconst (v := (1 : Int32)) hx hb d_Log_runsExtended_202 (by decide) ?_
            refine k_cVi (As := [.int (1 : Int32)]) (rest := [.int ((f_Sta_register id g) ^^^ (f_Sta_register ib g)), .int ia, .ref aS]) (wr := [(aS, .inr (9, [.ref aG, .ref aX, .int nx, .int lt, .int sm, .int ex])), (aG, .inl (cG, 32, .inl g)), (aX, .inl (cX, 64, .inl sp)), (aL, .inr (6, [.ref aS]))]) (wj := [(aS, .inr (9, [.ref aG, .ref aX, .int nx, .int lt, .int sm, .int ex])), (aG, .inl (cG, 32, .inl g)), (aX, .inl (cX, 64, .inl sp)), (aI, .inr (5, [.int iw, .int io, .int id, .int ia, .int ib, .int ii, .int is, .int iu])), (aL, .inr (6, [.ref aS]))]) ⟨hx, hb, hml, hown, hB⟩ (c_Ins_has l D aI iw io id ia ib ii is iu (1 : Int32)) yl_Ins_has mw_490 hK hN hP hD hS hA [] [3] [0, 1, 2, 4] [0, 1, 2, 4, 3] rfl rfl rfl rfl (by decide +kernel) 0 rfl rfl rfl rfl hl.1 rfl (Nat.le_of_ble_eq_true rfl) ⟨Nat.le_of_ble_eq_true rfl, Nat.le_of_ble_eq_true rfl⟩ d_Log_runsExtended_203 ⟨Nat.le_of_ble_eq_true rfl, Nat.le_of_ble_eq_true rfl⟩ (fun H locs hP hD hS => ?_)
            let t10 := (f_Sta_keepResult ia ((f_Sta_register id g) ^^^ (f_Sta_register ib g)) (f_Ins_has (1 : Int32) iw) g sp)
            refine k_cVv (As := [.int ia, .int ((f_Sta_register id g) ^^^ (f_Sta_register ib g)), .int (f_Ins_has (1 : Int32) iw)]) (rest := []) (wr := [(aI, .inr (5, [.int iw, .int io, .int id, .int ia, .int ib, .int ii, .int is, .int iu])), (aL, .inr (6, [.ref aS]))]) (wj := [(aS, .inr (9, [.ref aG, .ref aX, .int nx, .int lt, .int sm, .int ex])), (aG, .inl (cG, 32, .inl t10.1)), (aX, .inl (cX, 64, .inl t10.2)), (aI, .inr (5, [.int iw, .int io, .int id, .int ia, .int ib, .int ii, .int is, .int iu])), (aL, .inr (6, [.ref aS]))]) ⟨hx, hb, hml, hown, hB⟩ (c_Sta_keepResult l D aS aG aX cG cX g sp nx lt sm ex ia ((f_Sta_register id g) ^^^ (f_Sta_register ib g)) (f_Ins_has (1 : Int32) iw)) yl_Sta_keepResult mw_491 hK hN hP hD hS hA [0, 1] [0, 1, 2] [3, 4] [2, 3, 4, 0, 1] rfl rfl rfl rfl (by decide +kernel) 0 rfl rfl rfl rfl hl.1 rfl (Nat.le_of_ble_eq_true rfl) ⟨Nat.le_of_ble_eq_true rfl, Nat.le_of_ble_eq_true rfl⟩ d_Log_runsExtended_206 ⟨Nat.le_of_ble_eq_true rfl, Nat.le_of_ble_eq_true rfl⟩ (fun H locs hP hD hS => ?_)
            refine lv_iconst (v := (1 : Int32)) hx hb d_Log_runsExtended_209 (by decide) ?_
            have ef : f_Log_runsExtended g sp iw id ia ib ii = ((1 : Int32), t10.1, t10.2) := by unfold f_Log_runsExtended; try dsimp only; rw [if_neg h1, if_neg h3, if_neg h5, if_neg h7, if_pos h9]
            exact k_zret hx hb hr hlocks hK hP hD hS [0, 1, 2, 3, 4] rfl (by rw [ef] <;> rfl) (by rw [ef] <;> rfl) nb1 d_Log_runsExtended_210
          · by_cases h11 : ii = (444 : Int32)
            · refine lv_lookup (off := 129) (tgt := 157) hx hb d_Log_runsExtended_28 (by decide) (by have hq9 := h11 <;> rw [hq9] <;> rfl) (by decide) ?_
              refine lv_iload_n hx hb d_Log_runsExtended_157 rfl (lv_at hl 1 rfl) ?_
              refine lv_iload_n hx hb d_Log_runsExtended_158 rfl (lv_at hl 0 rfl) ?_
              refine lv_ior hx hb d_Log_runsExtended_159 ?_
              refine lv_istore (lv' := [(4, .int ((f_Sta_register id g) ||| (f_Sta_register ib g))), (3, .int (f_Sta_register ib g)), (2, .int (f_Sta_register id g)), (0, .ref aL), (1, .ref aI)]) hx hb d_Log_runsExtended_160 hl (by decide) rfl (fun ls hl => ?_)
              refine lv_goto (tgt := 191) hx hb d_Log_runsExtended_162 (by decide) ?_
              refine lv_aload_n hx hb d_Log_runsExtended_191 rfl (lv_at hl 3 rfl) ?_
              refine va_get (D := D) (ci := 6) (v := .ref aS) (C := "MappedProcessor$Logic") (T := T_Log) (N := 1) hx hb hB iw_Log hown hK hP 4 rfl rfl 0 (by decide) (hB _ mw_169) (fun _ h9 => h9) rfl d_Log_runsExtended_192 ?_
              refine lv_aload_n hx hb d_Log_runsExtended_195 rfl (lv_at hl 4 rfl) ?_
              refine va_get (D := D) (ci := 5) (v := .int ia) (C := "MappedProcessor$Instruction") (T := T_Ins) (N := 8) hx hb hB iw_Ins hown hK hP 3 rfl rfl 3 (by decide) (hB _ mw_102) (fun _ h9 => h9) rfl d_Log_runsExtended_196 ?_
              refine lv_iload hx hb d_Log_runsExtended_199 (lv_at hl 0 rfl) ?_
              refine lv_aload_n hx hb d_Log_runsExtended_201 rfl (lv_at hl 4 rfl) ?_
              refine lv_iconst (v := (1 : Int32)) hx hb d_Log_runsExtended_202 (by decide) ?_
              refine k_cVi (As := [.int (1 : Int32)]) (rest := [.int ((f_Sta_register id g) ||| (f_Sta_register ib g)), .int ia, .ref aS]) (wr := [(aS, .inr (9, [.ref aG, .ref aX, .int nx, .int lt, .int sm, .int ex])), (aG, .inl (cG, 32, .inl g)), (aX, .inl (cX, 64, .inl sp)), (aL, .inr (6, [.ref aS]))]) (wj := [(aS, .inr (9, [.ref aG, .ref aX, .int nx, .int lt, .int sm, .int ex])), (aG, .inl (cG, 32, .inl g)), (aX, .inl (cX, 64, .inl sp)), (aI, .inr (5, [.int iw, .int io, .int id, .int ia, .int ib, .int ii, .int is, .int iu])), (aL, .inr (6, [.ref aS]))]) ⟨hx, hb, hml, hown, hB⟩ (c_Ins_has l D aI iw io id ia ib ii is iu (1 : Int32)) yl_Ins_has mw_490 hK hN hP hD hS hA [] [3] [0, 1, 2, 4] [0, 1, 2, 4, 3] rfl rfl rfl rfl (by decide +kernel) 0 rfl rfl rfl rfl hl.1 rfl (Nat.le_of_ble_eq_true rfl) ⟨Nat.le_of_ble_eq_true rfl, Nat.le_of_ble_eq_true rfl⟩ d_Log_runsExtended_203 ⟨Nat.le_of_ble_eq_true rfl, Nat.le_of_ble_eq_true rfl⟩ (fun H locs hP hD hS => ?_)
              let t12 := (f_Sta_keepResult ia ((f_Sta_register id g) ||| (f_Sta_register ib g)) (f_Ins_has (1 : Int32) iw) g sp)
              refine k_cVv (As := [.int ia, .int ((f_Sta_register id g) ||| (f_Sta_register ib g)), .int (f_Ins_has (1 : Int32) iw)]) (rest := []) (wr := [(aI, .inr (5, [.int iw, .int io, .int id, .int ia, .int ib, .int ii, .int is, .int iu])), (aL, .inr (6, [.ref aS]))]) (wj := [(aS, .inr (9, [.ref aG, .ref aX, .int nx, .int lt, .int sm, .int ex])), (aG, .inl (cG, 32, .inl t12.1)), (aX, .inl (cX, 64, .inl t12.2)), (aI, .inr (5, [.int iw, .int io, .int id, .int ia, .int ib, .int ii, .int is, .int iu])), (aL, .inr (6, [.ref aS]))]) ⟨hx, hb, hml, hown, hB⟩ (c_Sta_keepResult l D aS aG aX cG cX g sp nx lt sm ex ia ((f_Sta_register id g) ||| (f_Sta_register ib g)) (f_Ins_has (1 : Int32) iw)) yl_Sta_keepResult mw_491 hK hN hP hD hS hA [0, 1] [0, 1, 2] [3, 4] [2, 3, 4, 0, 1] rfl rfl rfl rfl (by decide +kernel) 0 rfl rfl rfl rfl hl.1 rfl (Nat.le_of_ble_eq_true rfl) ⟨Nat.le_of_ble_eq_true rfl, Nat.le_of_ble_eq_true rfl⟩ d_Log_runsExtended_206 ⟨Nat.le_of_ble_eq_true rfl, Nat.le_of_ble_eq_true rfl⟩ (fun H locs hP hD hS => ?_)
              refine lv_iconst (v := (1 : Int32)) hx hb d_Log_runsExtended_209 (by decide) ?_
              have ef : f_Log_runsExtended g sp iw id ia ib ii = ((1 : Int32), t12.1, t12.2) := by unfold f_Log_runsExtended; try dsimp only; rw [if_neg h1, if_neg h3, if_neg h5, if_neg h7, if_neg h9, if_pos h11]
              exact k_zret hx hb hr hlocks hK hP hD hS [0, 1, 2, 3, 4] rfl (by rw [ef] <;> rfl) (by rw [ef] <;> rfl) nb1 d_Log_runsExtended_210
            · by_cases h13 : ii = (476 : Int32)
              · refine lv_lookup (off := 137) (tgt := 165) hx hb d_Log_runsExtended_28 (by decide) (by have hq9 := h13 <;> rw [hq9] <;> rfl) (by decide) ?_
                refine lv_iload_n hx hb d_Log_runsExtended_165 rfl (lv_at hl 1 rfl) ?_
                refine lv_iload_n hx hb d_Log_runsExtended_166 rfl (lv_at hl 0 rfl) ?_
                refine lv_iand hx hb d_Log_runsExtended_167 ?_
                refine lv_iconst (v := (-1 : Int32)) hx hb d_Log_runsExtended_168 (by decide) ?_
                refine lv_ixor hx hb d_Log_runsExtended_169 ?_
                refine lv_istore (lv' := [(4, .int (((f_Sta_register id g) &&& (f_Sta_register ib g)) ^^^ (-1 : Int32))), (3, .int (f_Sta_register ib g)), (2, .int (f_Sta_register id g)), (0, .ref aL), (1, .ref aI)]) hx hb d_Log_runsExtended_170 hl (by decide) rfl (fun ls hl => ?_)
                refine lv_goto (tgt := 191) hx hb d_Log_runsExtended_172 (by decide) ?_
                refine lv_aload_n hx hb d_Log_runsExtended_191 rfl (lv_at hl 3 rfl) ?_
                refine va_get (D := D) (ci := 6) (v := .ref aS) (C := "MappedProcessor$Logic") (T := T_Log) (N := 1) hx hb hB iw_Log hown hK hP 4 rfl rfl 0 (by decide) (hB _ mw_169) (fun _ h9 => h9) rfl d_Log_runsExtended_192 ?_
                refine lv_aload_n hx hb d_Log_runsExtended_195 rfl (lv_at hl 4 rfl) ?_
                refine va_get (D := D) (ci := 5) (v := .int ia) (C := "MappedProcessor$Instruction") (T := T_Ins) (N := 8) hx hb hB iw_Ins hown hK hP 3 rfl rfl 3 (by decide) (hB _ mw_102) (fun _ h9 => h9) rfl d_Log_runsExtended_196 ?_
                refine lv_iload hx hb d_Log_runsExtended_199 (lv_at hl 0 rfl) ?_
                refine lv_aload_n hx hb d_Log_runsExtended_201 rfl (lv_at hl 4 rfl) ?_
                refine lv_iconst (v := (1 : Int32)) hx hb d_Log_runsExtended_202 (by decide) ?_
                refine k_cVi (As := [.int (1 : Int32)]) (rest := [.int (((f_Sta_register id g) &&& (f_Sta_register ib g)) ^^^ (-1 : Int32)), .int ia, .ref aS]) (wr := [(aS, .inr (9, [.ref aG, .ref aX, .int nx, .int lt, .int sm, .int ex])), (aG, .inl (cG, 32, .inl g)), (aX, .inl (cX, 64, .inl sp)), (aL, .inr (6, [.ref aS]))]) (wj := [(aS, .inr (9, [.ref aG, .ref aX, .int nx, .int lt, .int sm, .int ex])), (aG, .inl (cG, 32, .inl g)), (aX, .inl (cX, 64, .inl sp)), (aI, .inr (5, [.int iw, .int io, .int id, .int ia, .int ib, .int ii, .int is, .int iu])), (aL, .inr (6, [.ref aS]))]) ⟨hx, hb, hml, hown, hB⟩ (c_Ins_has l D aI iw io id ia ib ii is iu (1 : Int32)) yl_Ins_has mw_490 hK hN hP hD hS hA [] [3] [0, 1, 2, 4] [0, 1, 2, 4, 3] rfl rfl rfl rfl (by decide +kernel) 0 rfl rfl rfl rfl hl.1 rfl (Nat.le_of_ble_eq_true rfl) ⟨Nat.le_of_ble_eq_true rfl, Nat.le_of_ble_eq_true rfl⟩ d_Log_runsExtended_203 ⟨Nat.le_of_ble_eq_true rfl, Nat.le_of_ble_eq_true rfl⟩ (fun H locs hP hD hS => ?_)
                let t14 := (f_Sta_keepResult ia (((f_Sta_register id g) &&& (f_Sta_register ib g)) ^^^ (-1 : Int32)) (f_Ins_has (1 : Int32) iw) g sp)
                refine k_cVv (As := [.int ia, .int (((f_Sta_register id g) &&& (f_Sta_register ib g)) ^^^ (-1 : Int32)), .int (f_Ins_has (1 : Int32) iw)]) (rest := []) (wr := [(aI, .inr (5, [.int iw, .int io, .int id, .int ia, .int ib, .int ii, .int is, .int iu])), (aL, .inr (6, [.ref aS]))]) (wj := [(aS, .inr (9, [.ref aG, .ref aX, .int nx, .int lt, .int sm, .int ex])), (aG, .inl (cG, 32, .inl t14.1)), (aX, .inl (cX, 64, .inl t14.2)), (aI, .inr (5, [.int iw, .int io, .int id, .int ia, .int ib, .int ii, .int is, .int iu])), (aL, .inr (6, [.ref aS]))]) ⟨hx, hb, hml, hown, hB⟩ (c_Sta_keepResult l D aS aG aX cG cX g sp nx lt sm ex ia (((f_Sta_register id g) &&& (f_Sta_register ib g)) ^^^ (-1 : Int32)) (f_Ins_has (1 : Int32) iw)) yl_Sta_keepResult mw_491 hK hN hP hD hS hA [0, 1] [0, 1, 2] [3, 4] [2, 3, 4, 0, 1] rfl rfl rfl rfl (by decide +kernel) 0 rfl rfl rfl rfl hl.1 rfl (Nat.le_of_ble_eq_true rfl) ⟨Nat.le_of_ble_eq_true rfl, Nat.le_of_ble_eq_true rfl⟩ d_Log_runsExtended_206 ⟨Nat.le_of_ble_eq_true rfl, Nat.le_of_ble_eq_true rfl⟩ (fun H locs hP hD hS => ?_)
                refine lv_iconst (v := (1 : Int32)) hx hb d_Log_runsExtended_209 (by decide) ?_
                have ef : f_Log_runsExtended g sp iw id ia ib ii = ((1 : Int32), t14.1, t14.2) := by unfold f_Log_runsExtended; try dsimp only; rw [if_neg h1, if_neg h3, if_neg h5, if_neg h7, if_neg h9, if_neg h11, if_pos h13]
                exact k_zret hx hb hr hlocks hK hP hD hS [0, 1, 2, 3, 4] rfl (by rw [ef] <;> rfl) (by rw [ef] <;> rfl) nb1 d_Log_runsExtended_210
              · by_cases h15 : ii = (922 : Int32)
                · refine lv_lookup (off := 147) (tgt := 175) hx hb d_Log_runsExtended_28 (by decide) (by have hq9 := h15 <;> rw [hq9] <;> rfl) (by decide) ?_
                  refine lv_iload_n hx hb d_Log_runsExtended_175 rfl (lv_at hl 1 rfl) ?_
                  refine lv_i2s (v := ((f_Sta_register id g).toInt16.toInt32)) hx hb d_Log_runsExtended_176 rfl ?_
                  refine lv_istore (lv' := [(4, .int ((f_Sta_register id g).toInt16.toInt32)), (3, .int (f_Sta_register ib g)), (2, .int (f_Sta_register id g)), (0, .ref aL), (1, .ref aI)]) hx hb d_Log_runsExtended_177 hl (by decide) rfl (fun ls hl => ?_)
                  refine lv_goto (tgt := 191) hx hb d_Log_runsExtended_179 (by decide) ?_
                  refine lv_aload_n hx hb d_Log_runsExtended_191 rfl (lv_at hl 3 rfl) ?_
                  refine va_get (D := D) (ci := 6) (v := .ref aS) (C := "MappedProcessor$Logic") (T := T_Log) (N := 1) hx hb hB iw_Log hown hK hP 4 rfl rfl 0 (by decide) (hB _ mw_169) (fun _ h9 => h9) rfl d_Log_runsExtended_192 ?_
                  refine lv_aload_n hx hb d_Log_runsExtended_195 rfl (lv_at hl 4 rfl) ?_
                  refine va_get (D := D) (ci := 5) (v := .int ia) (C := "MappedProcessor$Instruction") (T := T_Ins) (N := 8) hx hb hB iw_Ins hown hK hP 3 rfl rfl 3 (by decide) (hB _ mw_102) (fun _ h9 => h9) rfl d_Log_runsExtended_196 ?_
                  refine lv_iload hx hb d_Log_runsExtended_199 (lv_at hl 0 rfl) ?_
                  refine lv_aload_n hx hb d_Log_runsExtended_201 rfl (lv_at hl 4 rfl) ?_
                  refine lv_iconst (v := (1 : Int32)) hx hb d_Log_runsExtended_202 (by decide) ?_
                  refine k_cVi (As := [.int (1 : Int32)]) (rest := [.int ((f_Sta_register id g).toInt16.toInt32), .int ia, .ref aS]) (wr := [(aS, .inr (9, [.ref aG, .ref aX, .int nx, .int lt, .int sm, .int ex])), (aG, .inl (cG, 32, .inl g)), (aX, .inl (cX, 64, .inl sp)), (aL, .inr (6, [.ref aS]))]) (wj := [(aS, .inr (9, [.ref aG, .ref aX, .int nx, .int lt, .int sm, .int ex])), (aG, .inl (cG, 32, .inl g)), (aX, .inl (cX, 64, .inl sp)), (aI, .inr (5, [.int iw, .int io, .int id, .int ia, .int ib, .int ii, .int is, .int iu])), (aL, .inr (6, [.ref aS]))]) ⟨hx, hb, hml, hown, hB⟩ (c_Ins_has l D aI iw io id ia ib ii is iu (1 : Int32)) yl_Ins_has mw_490 hK hN hP hD hS hA [] [3] [0, 1, 2, 4] [0, 1, 2, 4, 3] rfl rfl rfl rfl (by decide +kernel) 0 rfl rfl rfl rfl hl.1 rfl (Nat.le_of_ble_eq_true rfl) ⟨Nat.le_of_ble_eq_true rfl, Nat.le_of_ble_eq_true rfl⟩ d_Log_runsExtended_203 ⟨Nat.le_of_ble_eq_true rfl, Nat.le_of_ble_eq_true rfl⟩ (fun H locs hP hD hS => ?_)
                  let t16 := (f_Sta_keepResult ia ((f_Sta_register id g).toInt16.toInt32) (f_Ins_has (1 : Int32) iw) g sp)
                  refine k_cVv (As := [.int ia, .int ((f_Sta_register id g).toInt16.toInt32), .int (f_Ins_has (1 : Int32) iw)]) (rest := []) (wr := [(aI, .inr (5, [.int iw, .int io, .int id, .int ia, .int ib, .int ii, .int is, .int iu])), (aL, .inr (6, [.ref aS]))]) (wj := [(aS, .inr (9, [.ref aG, .ref aX, .int nx, .int lt, .int sm, .int ex])), (aG, .inl (cG, 32, .inl t16.1)), (aX, .inl (cX, 64, .inl t16.2)), (aI, .inr (5, [.int iw, .int io, .int id, .int ia, .int ib, .int ii, .int is, .int iu])), (aL, .inr (6, [.ref aS]))]) ⟨hx, hb, hml, hown, hB⟩ (c_Sta_keepResult l D aS aG aX cG cX g sp nx lt sm ex ia ((f_Sta_register id g).toInt16.toInt32) (f_Ins_has (1 : Int32) iw)) yl_Sta_keepResult mw_491 hK hN hP hD hS hA [0, 1] [0, 1, 2] [3, 4] [2, 3, 4, 0, 1] rfl rfl rfl rfl (by decide +kernel) 0 rfl rfl rfl rfl hl.1 rfl (Nat.le_of_ble_eq_true rfl) ⟨Nat.le_of_ble_eq_true rfl, Nat.le_of_ble_eq_true rfl⟩ d_Log_runsExtended_206 ⟨Nat.le_of_ble_eq_true rfl, Nat.le_of_ble_eq_true rfl⟩ (fun H locs hP hD hS => ?_)
                  refine lv_iconst (v := (1 : Int32)) hx hb d_Log_runsExtended_209 (by decide) ?_
                  have ef : f_Log_runsExtended g sp iw id ia ib ii = ((1 : Int32), t16.1, t16.2) := by unfold f_Log_runsExtended; try dsimp only; rw [if_neg h1, if_neg h3, if_neg h5, if_neg h7, if_neg h9, if_neg h11, if_neg h13, if_pos h15]
                  exact k_zret hx hb hr hlocks hK hP hD hS [0, 1, 2, 3, 4] rfl (by rw [ef] <;> rfl) (by rw [ef] <;> rfl) nb1 d_Log_runsExtended_210
                · by_cases h17 : ii = (954 : Int32)
                  · refine lv_lookup (off := 154) (tgt := 182) hx hb d_Log_runsExtended_28 (by decide) (by have hq9 := h17 <;> rw [hq9] <;> rfl) (by decide) ?_
                    refine lv_iload_n hx hb d_Log_runsExtended_182 rfl (lv_at hl 1 rfl) ?_
                    refine lv_i2b (v := ((f_Sta_register id g).toInt8.toInt32)) hx hb d_Log_runsExtended_183 rfl ?_
                    refine lv_istore (lv' := [(4, .int ((f_Sta_register id g).toInt8.toInt32)), (3, .int (f_Sta_register ib g)), (2, .int (f_Sta_register id g)), (0, .ref aL), (1, .ref aI)]) hx hb d_Log_runsExtended_184 hl (by decide) rfl (fun ls hl => ?_)
                    refine lv_goto (tgt := 191) hx hb d_Log_runsExtended_186 (by decide) ?_
                    refine lv_aload_n hx hb d_Log_runsExtended_191 rfl (lv_at hl 3 rfl) ?_
                    refine va_get (D := D) (ci := 6) (v := .ref aS) (C := "MappedProcessor$Logic") (T := T_Log) (N := 1) hx hb hB iw_Log hown hK hP 4 rfl rfl 0 (by decide) (hB _ mw_169) (fun _ h9 => h9) rfl d_Log_runsExtended_192 ?_
                    refine lv_aload_n hx hb d_Log_runsExtended_195 rfl (lv_at hl 4 rfl) ?_
                    refine va_get (D := D) (ci := 5) (v := .int ia) (C := "MappedProcessor$Instruction") (T := T_Ins) (N := 8) hx hb hB iw_Ins hown hK hP 3 rfl rfl 3 (by decide) (hB _ mw_102) (fun _ h9 => h9) rfl d_Log_runsExtended_196 ?_
                    refine lv_iload hx hb d_Log_runsExtended_199 (lv_at hl 0 rfl) ?_
                    refine lv_aload_n hx hb d_Log_runsExtended_201 rfl (lv_at hl 4 rfl) ?_
                    refine lv_iconst (v := (1 : Int32)) hx hb d_Log_runsExtended_202 (by decide) ?_
                    refine k_cVi (As := [.int (1 : Int32)]) (rest := [.int ((f_Sta_register id g).toInt8.toInt32), .int ia, .ref aS]) (wr := [(aS, .inr (9, [.ref aG, .ref aX, .int nx, .int lt, .int sm, .int ex])), (aG, .inl (cG, 32, .inl g)), (aX, .inl (cX, 64, .inl sp)), (aL, .inr (6, [.ref aS]))]) (wj := [(aS, .inr (9, [.ref aG, .ref aX, .int nx, .int lt, .int sm, .int ex])), (aG, .inl (cG, 32, .inl g)), (aX, .inl (cX, 64, .inl sp)), (aI, .inr (5, [.int iw, .int io, .int id, .int ia, .int ib, .int ii, .int is, .int iu])), (aL, .inr (6, [.ref aS]))]) ⟨hx, hb, hml, hown, hB⟩ (c_Ins_has l D aI iw io id ia ib ii is iu (1 : Int32)) yl_Ins_has mw_490 hK hN hP hD hS hA [] [3] [0, 1, 2, 4] [0, 1, 2, 4, 3] rfl rfl rfl rfl (by decide +kernel) 0 rfl rfl rfl rfl hl.1 rfl (Nat.le_of_ble_eq_true rfl) ⟨Nat.le_of_ble_eq_true rfl, Nat.le_of_ble_eq_true rfl⟩ d_Log_runsExtended_203 ⟨Nat.le_of_ble_eq_true rfl, Nat.le_of_ble_eq_true rfl⟩ (fun H locs hP hD hS => ?_)
                    let t18 := (f_Sta_keepResult ia ((f_Sta_register id g).toInt8.toInt32) (f_Ins_has (1 : Int32) iw) g sp)
                    refine k_cVv (As := [.int ia, .int ((f_Sta_register id g).toInt8.toInt32), .int (f_Ins_has (1 : Int32) iw)]) (rest := []) (wr := [(aI, .inr (5, [.int iw, .int io, .int id, .int ia, .int ib, .int ii, .int is, .int iu])), (aL, .inr (6, [.ref aS]))]) (wj := [(aS, .inr (9, [.ref aG, .ref aX, .int nx, .int lt, .int sm, .int ex])), (aG, .inl (cG, 32, .inl t18.1)), (aX, .inl (cX, 64, .inl t18.2)), (aI, .inr (5, [.int iw, .int io, .int id, .int ia, .int ib, .int ii, .int is, .int iu])), (aL, .inr (6, [.ref aS]))]) ⟨hx, hb, hml, hown, hB⟩ (c_Sta_keepResult l D aS aG aX cG cX g sp nx lt sm ex ia ((f_Sta_register id g).toInt8.toInt32) (f_Ins_has (1 : Int32) iw)) yl_Sta_keepResult mw_491 hK hN hP hD hS hA [0, 1] [0, 1, 2] [3, 4] [2, 3, 4, 0, 1] rfl rfl rfl rfl (by decide +kernel) 0 rfl rfl rfl rfl hl.1 rfl (Nat.le_of_ble_eq_true rfl) ⟨Nat.le_of_ble_eq_true rfl, Nat.le_of_ble_eq_true rfl⟩ d_Log_runsExtended_206 ⟨Nat.le_of_ble_eq_true rfl, Nat.le_of_ble_eq_true rfl⟩ (fun H locs hP hD hS => ?_)
                    refine lv_iconst (v := (1 : Int32)) hx hb d_Log_runsExtended_209 (by decide) ?_
                    have ef : f_Log_runsExtended g sp iw id ia ib ii = ((1 : Int32), t18.1, t18.2) := by unfold f_Log_runsExtended; try dsimp only; rw [if_neg h1, if_neg h3, if_neg h5, if_neg h7, if_neg h9, if_neg h11, if_neg h13, if_neg h15, if_pos h17]
                    exact k_zret hx hb hr hlocks hK hP hD hS [0, 1, 2, 3, 4] rfl (by rw [ef] <;> rfl) (by rw [ef] <;> rfl) nb1 d_Log_runsExtended_210
                  · refine lv_lookup (off := 161) (tgt := 189) hx hb d_Log_runsExtended_28 (by decide) (by rw [lv_osw (k := (26 : Int32)) h1 (by decide), lv_osw (k := (28 : Int32)) h3 (by decide), lv_osw (k := (60 : Int32)) h5 (by decide), lv_osw (k := (124 : Int32)) h7 (by decide), lv_osw (k := (316 : Int32)) h9 (by decide), lv_osw (k := (444 : Int32)) h11 (by decide), lv_osw (k := (476 : Int32)) h13 (by decide), lv_osw (k := (922 : Int32)) h15 (by decide), lv_osw (k := (954 : Int32)) h17 (by decide)]; rfl) (by decide) ?_
                    refine lv_iconst (v := (0 : Int32)) hx hb d_Log_runsExtended_189 (by decide) ?_
                    have ef : f_Log_runsExtended g sp iw id ia ib ii = ((0 : Int32), g, sp) := by unfold f_Log_runsExtended; try dsimp only; rw [if_neg h1, if_neg h3, if_neg h5, if_neg h7, if_neg h9, if_neg h11, if_neg h13, if_neg h15, if_neg h17]
                    exact k_zret hx hb hr hlocks hK hP hD hS [0, 1, 2, 3, 4] rfl (by rw [ef] <;> rfl) (by rw [ef] <;> rfl) nb0 d_Log_runsExtended_190
/-! MappedProcessor$Logic.signedShift(II)I -/
theorem d_Log_signedShift_0 : decode b_Log_signedShift 0 = .ok (.iload_n 2, 1) := by decide +kernel
theorem d_Log_signedShift_1 : decode b_Log_signedShift 1 = .ok (.bipush 31, 2) := by decide +kernel
theorem d_Log_signedShift_3 : decode b_Log_signedShift 3 = .ok (.if_icmp .le 7, 3) := by decide +kernel
theorem d_Log_signedShift_6 : decode b_Log_signedShift 6 = .ok (.iload_n 1, 1) := by decide +kernel
theorem d_Log_signedShift_7 : decode b_Log_signedShift 7 = .ok (.goto 10, 3) := by decide +kernel
theorem d_Log_signedShift_10 : decode b_Log_signedShift 10 = .ok (.iload_n 1, 1) := by decide +kernel
theorem d_Log_signedShift_11 : decode b_Log_signedShift 11 = .ok (.iconst 1, 1) := by decide +kernel
theorem d_Log_signedShift_12 : decode b_Log_signedShift 12 = .ok (.iload_n 2, 1) := by decide +kernel
theorem d_Log_signedShift_13 : decode b_Log_signedShift 13 = .ok (.ishl, 1) := by decide +kernel
theorem d_Log_signedShift_14 : decode b_Log_signedShift 14 = .ok (.iconst 1, 1) := by decide +kernel
theorem d_Log_signedShift_15 : decode b_Log_signedShift 15 = .ok (.isub, 1) := by decide +kernel
theorem d_Log_signedShift_16 : decode b_Log_signedShift 16 = .ok (.iand, 1) := by decide +kernel
theorem d_Log_signedShift_17 : decode b_Log_signedShift 17 = .ok (.istore_n 3, 1) := by decide +kernel
theorem d_Log_signedShift_18 : decode b_Log_signedShift 18 = .ok (.aload_n 0, 1) := by decide +kernel
theorem d_Log_signedShift_19 : decode b_Log_signedShift 19 = .ok (.getfield 7, 3) := by decide +kernel
theorem d_Log_signedShift_22 : decode b_Log_signedShift 22 = .ok (.iload_n 1, 1) := by decide +kernel
theorem d_Log_signedShift_23 : decode b_Log_signedShift 23 = .ok (.ifCond .ge 11, 3) := by decide +kernel
theorem d_Log_signedShift_26 : decode b_Log_signedShift 26 = .ok (.iload_n 3, 1) := by decide +kernel
theorem d_Log_signedShift_27 : decode b_Log_signedShift 27 = .ok (.ifCond .eq 7, 3) := by decide +kernel
theorem d_Log_signedShift_30 : decode b_Log_signedShift 30 = .ok (.iconst 1, 1) := by decide +kernel
theorem d_Log_signedShift_31 : decode b_Log_signedShift 31 = .ok (.goto 4, 3) := by decide +kernel
theorem d_Log_signedShift_34 : decode b_Log_signedShift 34 = .ok (.iconst 0, 1) := by decide +kernel
theorem d_Log_signedShift_35 : decode b_Log_signedShift 35 = .ok (.invokevirtual 66, 3) := by decide +kernel
theorem d_Log_signedShift_38 : decode b_Log_signedShift 38 = .ok (.iload_n 1, 1) := by decide +kernel
theorem d_Log_signedShift_39 : decode b_Log_signedShift 39 = .ok (.iload_n 2, 1) := by decide +kernel
theorem d_Log_signedShift_40 : decode b_Log_signedShift 40 = .ok (.bipush 31, 2) := by decide +kernel
theorem d_Log_signedShift_42 : decode b_Log_signedShift 42 = .ok (.if_icmp .le 8, 3) := by decide +kernel
theorem d_Log_signedShift_45 : decode b_Log_signedShift 45 = .ok (.bipush 31, 2) := by decide +kernel
theorem d_Log_signedShift_47 : decode b_Log_signedShift 47 = .ok (.goto 4, 3) := by decide +kernel
theorem d_Log_signedShift_50 : decode b_Log_signedShift 50 = .ok (.iload_n 2, 1) := by decide +kernel
theorem d_Log_signedShift_51 : decode b_Log_signedShift 51 = .ok (.ishr, 1) := by decide +kernel
theorem d_Log_signedShift_52 : decode b_Log_signedShift 52 = .ok (.ireturn, 1) := by decide +kernel
def f_Log_signedShift (p0 : Int32) (p1 : Int32) (sp : Nat → Int32) : Int32 × (Nat → Int32) :=
  ((shr p0 (if p1 ≤ (31 : Int32) then p1 else (31 : Int32))), (f_Sta_keepCarry (if (0 : Int32) ≤ p0 then (0 : Int32) else (if (if p1 ≤ (31 : Int32) then (p0 &&& ((shl (1 : Int32) p1) - (1 : Int32))) else p0) = (0 : Int32) then (0 : Int32) else (1 : Int32))) sp))
set_option maxHeartbeats 4000000 in
set_option maxRecDepth 100000 in
theorem c_Log_signedShift (l : Launch) (D : va_G) (aS aG aX aL : Nat) (cG cX : ClassId) (g : Nat → Int32) (sp : Nat → Int32) (nx : Int32) (lt : Int32) (sm : Int32) (ex : Int32) (p0 : Int32) (p1 : Int32) : kMi l y_Log_signedShift b_Log_signedShift 4 (some .int) 1 21 D kCl [(cG, .int), (cX, .int)] [.ref aL, .int p0, .int p1] [(aS, .inr (9, [.ref aG, .ref aX, .int nx, .int lt, .int sm, .int ex])), (aG, .inl (cG, 32, .inl g)), (aX, .inl (cX, 64, .inl sp)), (aL, .inr (6, [.ref aS]))] (f_Log_signedShift p0 p1 sp).1 [(aS, .inr (9, [.ref aG, .ref aX, .int nx, .int lt, .int sm, .int ex])), (aG, .inl (cG, 32, .inl g)), (aX, .inl (cX, 64, .inl (f_Log_signedShift p0 p1 sp).2)), (aL, .inr (6, [.ref aS]))] := by
  refine k_entry (Qc := fun A => kQi D kCl [(cG, .int), (cX, .int)] (f_Log_signedShift p0 p1 sp).1 [(aS, .inr (9, [.ref aG, .ref aX, .int nx, .int lt, .int sm, .int ex])), (aG, .inl (cG, 32, .inl g)), (aX, .inl (cX, 64, .inl (f_Log_signedShift p0 p1 sp).2)), (aL, .inr (6, [.ref aS]))] A) (lv := [(0, .ref aL), (1, .int p0), (2, .int p1)]) (by decide) (Nat.le_of_ble_eq_true rfl) rfl ?_
  intro p e s m below meth c A ls hx hb hr hml hB hown hlocks hin hA hK hN hP hD hS hl
  have hown : s.vm.findClass "MappedProcessor$Logic" = some m.cls := hown
  refine lv_iload_n hx hb d_Log_signedShift_0 rfl (lv_at hl 2 rfl) ?_
  refine lv_bipush (v := (31 : Int32)) hx hb d_Log_signedShift_1 (by decide) ?_
  refine k_join2 (c0 := p1 ≤ (31 : Int32)) (x1 := (p0 &&& ((shl (1 : Int32) p1) - (1 : Int32)))) (x2 := p0) (rest := []) 17 ?_ (fun k2 k3 => ?_)
  rotate_left
  · refine lv_icmp_le (tgt := 10) hx hb d_Log_signedShift_3 (by decide) (fun (h1 : p1 ≤ (31 : Int32)) => ?_) (fun (h1 : ¬ p1 ≤ (31 : Int32)) => ?_)
    · refine lv_iload_n hx hb d_Log_signedShift_10 rfl (lv_at hl 1 rfl) ?_
      refine lv_iconst (v := (1 : Int32)) hx hb d_Log_signedShift_11 (by decide) ?_
      refine lv_iload_n hx hb d_Log_signedShift_12 rfl (lv_at hl 2 rfl) ?_
      refine lv_ishl hx hb d_Log_signedShift_13 ?_
      refine lv_iconst (v := (1 : Int32)) hx hb d_Log_signedShift_14 (by decide) ?_
      refine lv_isub hx hb d_Log_signedShift_15 ?_
      refine lv_iand hx hb d_Log_signedShift_16 ?_
      exact k2 h1
    · refine lv_iload_n hx hb d_Log_signedShift_6 rfl (lv_at hl 1 rfl) ?_
      refine lv_goto (tgt := 17) hx hb d_Log_signedShift_7 (by decide) ?_
      exact k3 h1
  refine lv_istore_n (lv' := [(3, .int (if p1 ≤ (31 : Int32) then (p0 &&& ((shl (1 : Int32) p1) - (1 : Int32))) else p0)), (0, .ref aL), (1, .int p0), (2, .int p1)]) hx hb d_Log_signedShift_17 rfl hl (by decide) rfl (fun ls hl => ?_)
  refine lv_aload_n hx hb d_Log_signedShift_18 rfl (lv_at hl 1 rfl) ?_
  refine va_get (D := D) (ci := 6) (v := .ref aS) (C := "MappedProcessor$Logic") (T := T_Log) (N := 1) hx hb hB iw_Log hown hK hP 3 rfl rfl 0 (by decide) (hB _ mw_169) (fun _ h9 => h9) rfl d_Log_signedShift_19 ?_
  refine lv_iload_n hx hb d_Log_signedShift_22 rfl (lv_at hl 2 rfl) ?_
  refine k_join2 (c0 := (0 : Int32) ≤ p0) (x1 := (0 : Int32)) (x2 := (if (if p1 ≤ (31 : Int32) then (p0 &&& ((shl (1 : Int32) p1) - (1 : Int32))) else p0) = (0 : Int32) then (0 : Int32) else (1 : Int32))) (rest := [.ref aS]) 35 ?_ (fun k7 k8 => ?_)
  rotate_left
  · refine lv_if_ge (tgt := 34) hx hb d_Log_signedShift_23 (by decide) (fun (h6 : (0 : Int32) ≤ p0) => ?_) (fun (h6 : ¬ (0 : Int32) ≤ p0) => ?_)
    · refine lv_iconst (v := (0 : Int32)) hx hb d_Log_signedShift_34 (by decide) ?_
      exact k7 h6
    · refine lv_iload_n hx hb d_Log_signedShift_26 rfl (lv_at hl 0 rfl) ?_
      refine k_join2 (c0 := (if p1 ≤ (31 : Int32) then (p0 &&& ((shl (1 : Int32) p1) - (1 : Int32))) else p0) = (0 : Int32)) (x1 := (0 : Int32)) (x2 := (1 : Int32)) (rest := [.ref aS]) 35 ?_ (fun k10 k11 => ?_)
      rotate_left
      · refine lv_if_eq (tgt := 34) hx hb d_Log_signedShift_27 (by decide) (fun (h9 : (if p1 ≤ (31 : Int32) then (p0 &&& ((shl (1 : Int32) p1) - (1 : Int32))) else p0) = (0 : Int32)) => ?_) (fun (h9 : ¬ (if p1 ≤ (31 : Int32) then (p0 &&& ((shl (1 : Int32) p1) - (1 : Int32))) else p0) = (0 : Int32)) => ?_)
        · refine lv_iconst (v := (0 : Int32)) hx hb d_Log_signedShift_34 (by decide) ?_
          exact k10 h9
        · refine lv_iconst (v := (1 : Int32)) hx hb d_Log_signedShift_30 (by decide) ?_
          refine lv_goto (tgt := 35) hx hb d_Log_signedShift_31 (by decide) ?_
          exact k11 h9
      exact k8 h6
  refine k_cVv (As := [.int (if (0 : Int32) ≤ p0 then (0 : Int32) else (if (if p1 ≤ (31 : Int32) then (p0 &&& ((shl (1 : Int32) p1) - (1 : Int32))) else p0) = (0 : Int32) then (0 : Int32) else (1 : Int32)))]) (rest := []) (wr := [(aL, .inr (6, [.ref aS]))]) (wj := [(aS, .inr (9, [.ref aG, .ref aX, .int nx, .int lt, .int sm, .int ex])), (aG, .inl (cG, 32, .inl g)), (aX, .inl (cX, 64, .inl (f_Sta_keepCarry (if (0 : Int32) ≤ p0 then (0 : Int32) else (if (if p1 ≤ (31 : Int32) then (p0 &&& ((shl (1 : Int32) p1) - (1 : Int32))) else p0) = (0 : Int32) then (0 : Int32) else (1 : Int32))) sp))), (aL, .inr (6, [.ref aS]))]) ⟨hx, hb, hml, hown, hB⟩ (c_Sta_keepCarry l D aS aG aX cG cX g sp nx lt sm ex (if (0 : Int32) ≤ p0 then (0 : Int32) else (if (if p1 ≤ (31 : Int32) then (p0 &&& ((shl (1 : Int32) p1) - (1 : Int32))) else p0) = (0 : Int32) then (0 : Int32) else (1 : Int32)))) yl_Sta_keepCarry mw_529 hK hN hP hD hS hA [0, 1] [0, 1, 2] [3] [1, 2, 3, 0] rfl rfl rfl rfl (by decide +kernel) 0 rfl rfl rfl rfl hl.1 rfl (Nat.le_of_ble_eq_true rfl) ⟨Nat.le_of_ble_eq_true rfl, Nat.le_of_ble_eq_true rfl⟩ d_Log_signedShift_35 ⟨Nat.le_of_ble_eq_true rfl, Nat.le_of_ble_eq_true rfl⟩ (fun H locs hP hD hS => ?_)
  refine lv_iload_n hx hb d_Log_signedShift_38 rfl (lv_at hl 2 rfl) ?_
  refine lv_iload_n hx hb d_Log_signedShift_39 rfl (lv_at hl 3 rfl) ?_
  refine lv_bipush (v := (31 : Int32)) hx hb d_Log_signedShift_40 (by decide) ?_
  refine k_join2 (c0 := p1 ≤ (31 : Int32)) (x1 := p1) (x2 := (31 : Int32)) (rest := [.int p0]) 51 ?_ (fun k17 k18 => ?_)
  rotate_left
  · refine lv_icmp_le (tgt := 50) hx hb d_Log_signedShift_42 (by decide) (fun (h16 : p1 ≤ (31 : Int32)) => ?_) (fun (h16 : ¬ p1 ≤ (31 : Int32)) => ?_)
    · refine lv_iload_n hx hb d_Log_signedShift_50 rfl (lv_at hl 3 rfl) ?_
      exact k17 h16
    · refine lv_bipush (v := (31 : Int32)) hx hb d_Log_signedShift_45 (by decide) ?_
      refine lv_goto (tgt := 51) hx hb d_Log_signedShift_47 (by decide) ?_
      exact k18 h16
  refine lv_ishr hx hb d_Log_signedShift_51 ?_
  have ef : f_Log_signedShift p0 p1 sp = ((shr p0 (if p1 ≤ (31 : Int32) then p1 else (31 : Int32))), (f_Sta_keepCarry (if (0 : Int32) ≤ p0 then (0 : Int32) else (if (if p1 ≤ (31 : Int32) then (p0 &&& ((shl (1 : Int32) p1) - (1 : Int32))) else p0) = (0 : Int32) then (0 : Int32) else (1 : Int32))) sp)) := rfl
  exact k_iret hx hb hr hlocks hK hP hD hS [0, 1, 2, 3] rfl (by rw [ef] <;> rfl) (by rw [ef] <;> rfl) d_Log_signedShift_52
/-! MappedProcessor$Logic.runsShift(LMappedProcessor$Instruction;)Z -/
theorem d_Log_runsShift_0 : decode b_Log_runsShift 0 = .ok (.aload_n 0, 1) := by decide +kernel
theorem d_Log_runsShift_1 : decode b_Log_runsShift 1 = .ok (.getfield 7, 3) := by decide +kernel
theorem d_Log_runsShift_4 : decode b_Log_runsShift 4 = .ok (.aload_n 1, 1) := by decide +kernel
theorem d_Log_runsShift_5 : decode b_Log_runsShift 5 = .ok (.getfield 13, 3) := by decide +kernel
theorem d_Log_runsShift_8 : decode b_Log_runsShift 8 = .ok (.invokevirtual 19, 3) := by decide +kernel
theorem d_Log_runsShift_11 : decode b_Log_runsShift 11 = .ok (.istore_n 2, 1) := by decide +kernel
theorem d_Log_runsShift_12 : decode b_Log_runsShift 12 = .ok (.aload_n 0, 1) := by decide +kernel
theorem d_Log_runsShift_13 : decode b_Log_runsShift 13 = .ok (.getfield 7, 3) := by decide +kernel
theorem d_Log_runsShift_16 : decode b_Log_runsShift 16 = .ok (.aload_n 1, 1) := by decide +kernel
theorem d_Log_runsShift_17 : decode b_Log_runsShift 17 = .ok (.getfield 38, 3) := by decide +kernel
theorem d_Log_runsShift_20 : decode b_Log_runsShift 20 = .ok (.invokevirtual 19, 3) := by decide +kernel
theorem d_Log_runsShift_23 : decode b_Log_runsShift 23 = .ok (.bipush 63, 2) := by decide +kernel
theorem d_Log_runsShift_25 : decode b_Log_runsShift 25 = .ok (.iand, 1) := by decide +kernel
theorem d_Log_runsShift_26 : decode b_Log_runsShift 26 = .ok (.istore_n 3, 1) := by decide +kernel
theorem d_Log_runsShift_27 : decode b_Log_runsShift 27 = .ok (.aload_n 1, 1) := by decide +kernel
theorem d_Log_runsShift_28 : decode b_Log_runsShift 28 = .ok (.getfield 57, 3) := by decide +kernel
theorem d_Log_runsShift_31 : decode b_Log_runsShift 31 = .ok (.lookupswitch 102 #[(24, 41), (536, 59), (792, 77), (824, 88)], 41) := by decide +kernel
theorem d_Log_runsShift_72 : decode b_Log_runsShift 72 = .ok (.iload_n 3, 1) := by decide +kernel
theorem d_Log_runsShift_73 : decode b_Log_runsShift 73 = .ok (.bipush 31, 2) := by decide +kernel
theorem d_Log_runsShift_75 : decode b_Log_runsShift 75 = .ok (.if_icmp .le 7, 3) := by decide +kernel
theorem d_Log_runsShift_78 : decode b_Log_runsShift 78 = .ok (.iconst 0, 1) := by decide +kernel
theorem d_Log_runsShift_79 : decode b_Log_runsShift 79 = .ok (.goto 6, 3) := by decide +kernel
theorem d_Log_runsShift_82 : decode b_Log_runsShift 82 = .ok (.iload_n 2, 1) := by decide +kernel
theorem d_Log_runsShift_83 : decode b_Log_runsShift 83 = .ok (.iload_n 3, 1) := by decide +kernel
theorem d_Log_runsShift_84 : decode b_Log_runsShift 84 = .ok (.ishl, 1) := by decide +kernel
theorem d_Log_runsShift_85 : decode b_Log_runsShift 85 = .ok (.istore 4, 2) := by decide +kernel
theorem d_Log_runsShift_87 : decode b_Log_runsShift 87 = .ok (.goto 48, 3) := by decide +kernel
theorem d_Log_runsShift_90 : decode b_Log_runsShift 90 = .ok (.iload_n 3, 1) := by decide +kernel
theorem d_Log_runsShift_91 : decode b_Log_runsShift 91 = .ok (.bipush 31, 2) := by decide +kernel
theorem d_Log_runsShift_93 : decode b_Log_runsShift 93 = .ok (.if_icmp .le 7, 3) := by decide +kernel
theorem d_Log_runsShift_96 : decode b_Log_runsShift 96 = .ok (.iconst 0, 1) := by decide +kernel
theorem d_Log_runsShift_97 : decode b_Log_runsShift 97 = .ok (.goto 6, 3) := by decide +kernel
theorem d_Log_runsShift_100 : decode b_Log_runsShift 100 = .ok (.iload_n 2, 1) := by decide +kernel
theorem d_Log_runsShift_101 : decode b_Log_runsShift 101 = .ok (.iload_n 3, 1) := by decide +kernel
theorem d_Log_runsShift_102 : decode b_Log_runsShift 102 = .ok (.iushr, 1) := by decide +kernel
theorem d_Log_runsShift_103 : decode b_Log_runsShift 103 = .ok (.istore 4, 2) := by decide +kernel
theorem d_Log_runsShift_105 : decode b_Log_runsShift 105 = .ok (.goto 30, 3) := by decide +kernel
theorem d_Log_runsShift_108 : decode b_Log_runsShift 108 = .ok (.aload_n 0, 1) := by decide +kernel
theorem d_Log_runsShift_109 : decode b_Log_runsShift 109 = .ok (.iload_n 2, 1) := by decide +kernel
theorem d_Log_runsShift_110 : decode b_Log_runsShift 110 = .ok (.iload_n 3, 1) := by decide +kernel
theorem d_Log_runsShift_111 : decode b_Log_runsShift 111 = .ok (.invokevirtual 63, 3) := by decide +kernel
theorem d_Log_runsShift_114 : decode b_Log_runsShift 114 = .ok (.istore 4, 2) := by decide +kernel
theorem d_Log_runsShift_116 : decode b_Log_runsShift 116 = .ok (.goto 19, 3) := by decide +kernel
theorem d_Log_runsShift_119 : decode b_Log_runsShift 119 = .ok (.aload_n 0, 1) := by decide +kernel
theorem d_Log_runsShift_120 : decode b_Log_runsShift 120 = .ok (.iload_n 2, 1) := by decide +kernel
theorem d_Log_runsShift_121 : decode b_Log_runsShift 121 = .ok (.aload_n 1, 1) := by decide +kernel
theorem d_Log_runsShift_122 : decode b_Log_runsShift 122 = .ok (.getfield 38, 3) := by decide +kernel
theorem d_Log_runsShift_125 : decode b_Log_runsShift 125 = .ok (.invokevirtual 63, 3) := by decide +kernel
theorem d_Log_runsShift_128 : decode b_Log_runsShift 128 = .ok (.istore 4, 2) := by decide +kernel
theorem d_Log_runsShift_130 : decode b_Log_runsShift 130 = .ok (.goto 5, 3) := by decide +kernel
theorem d_Log_runsShift_133 : decode b_Log_runsShift 133 = .ok (.iconst 0, 1) := by decide +kernel
theorem d_Log_runsShift_134 : decode b_Log_runsShift 134 = .ok (.ireturn, 1) := by decide +kernel
theorem d_Log_runsShift_135 : decode b_Log_runsShift 135 = .ok (.aload_n 0, 1) := by decide +kernel
theorem d_Log_runsShift_136 : decode b_Log_runsShift 136 = .ok (.getfield 7, 3) := by decide +kernel
theorem d_Log_runsShift_139 : decode b_Log_runsShift 139 = .ok (.aload_n 1, 1) := by decide +kernel
theorem d_Log_runsShift_140 : decode b_Log_runsShift 140 = .ok (.getfield 31, 3) := by decide +kernel
theorem d_Log_runsShift_143 : decode b_Log_runsShift 143 = .ok (.iload 4, 2) := by decide +kernel
theorem d_Log_runsShift_145 : decode b_Log_runsShift 145 = .ok (.aload_n 1, 1) := by decide +kernel
theorem d_Log_runsShift_146 : decode b_Log_runsShift 146 = .ok (.iconst 1, 1) := by decide +kernel
theorem d_Log_runsShift_147 : decode b_Log_runsShift 147 = .ok (.invokevirtual 53, 3) := by decide +kernel
theorem d_Log_runsShift_150 : decode b_Log_runsShift 150 = .ok (.invokevirtual 34, 3) := by decide +kernel
theorem d_Log_runsShift_153 : decode b_Log_runsShift 153 = .ok (.iconst 1, 1) := by decide +kernel
theorem d_Log_runsShift_154 : decode b_Log_runsShift 154 = .ok (.ireturn, 1) := by decide +kernel
def f_Log_runsShift (g : Nat → Int32) (sp : Nat → Int32) (iw : Int32) (id : Int32) (ia : Int32) (ib : Int32) (ii : Int32) : Int32 × (Nat → Int32) × (Nat → Int32) :=
  if ii = (24 : Int32) then
    let t7 := (f_Sta_keepResult ia (if ((f_Sta_register ib g) &&& (63 : Int32)) ≤ (31 : Int32) then (shl (f_Sta_register id g) ((f_Sta_register ib g) &&& (63 : Int32))) else (0 : Int32)) (f_Ins_has (1 : Int32) iw) g sp)
    ((1 : Int32), t7.1, t7.2)
  else
    if ii = (536 : Int32) then
      let t14 := (f_Sta_keepResult ia (if ((f_Sta_register ib g) &&& (63 : Int32)) ≤ (31 : Int32) then (ush (f_Sta_register id g) ((f_Sta_register ib g) &&& (63 : Int32))) else (0 : Int32)) (f_Ins_has (1 : Int32) iw) g sp)
      ((1 : Int32), t14.1, t14.2)
    else
      if ii = (792 : Int32) then
        let t16 := (f_Log_signedShift (f_Sta_register id g) ((f_Sta_register ib g) &&& (63 : Int32)) sp)
        let t17 := (f_Sta_keepResult ia t16.1 (f_Ins_has (1 : Int32) iw) g t16.2)
        ((1 : Int32), t17.1, t17.2)
      else
        if ii = (824 : Int32) then
          let t19 := (f_Log_signedShift (f_Sta_register id g) ib sp)
          let t20 := (f_Sta_keepResult ia t19.1 (f_Ins_has (1 : Int32) iw) g t19.2)
          ((1 : Int32), t20.1, t20.2)
        else
          ((0 : Int32), g, sp)
set_option maxHeartbeats 4000000 in
set_option maxRecDepth 100000 in
theorem ib_Log_runsShift (g : Nat → Int32) (sp : Nat → Int32) (iw : Int32) (id : Int32) (ia : Int32) (ib : Int32) (ii : Int32) : isB (f_Log_runsShift g sp iw id ia ib ii).1 := by
  unfold f_Log_runsShift
  try dsimp only
  repeat' (first | refine ib_ite ?_ ?_ | refine ib_ite0 ?_ ?_ | with_reducible exact ib0 | with_reducible exact ib1 | with_reducible exact ib_Ins_has _ _ | (dsimp only; first | exact ib0 | exact ib1))
theorem nb_Log_runsShift (g : Nat → Int32) (sp : Nat → Int32) (iw : Int32) (id : Int32) (ia : Int32) (ib : Int32) (ii : Int32) : narrow .boolean (.int (f_Log_runsShift g sp iw id ia ib ii).1) = .int (f_Log_runsShift g sp iw id ia ib ii).1 := nb_of (ib_Log_runsShift g sp iw id ia ib ii)
set_option maxHeartbeats 4000000 in
set_option maxRecDepth 100000 in
theorem c_Log_runsShift (l : Launch) (D : va_G) (aS aG aX aI aL : Nat) (cG cX : ClassId) (g : Nat → Int32) (sp : Nat → Int32) (nx : Int32) (lt : Int32) (sm : Int32) (ex : Int32) (iw : Int32) (io : Int32) (id : Int32) (ia : Int32) (ib : Int32) (ii : Int32) (is : Int32) (iu : Int32) (_q0 : Nat) : kMi l y_Log_runsShift b_Log_runsShift 5 (some .boolean) 2 51 D kCl [(cG, .int), (cX, .int)] [.ref aL, .ref aI] [(aS, .inr (9, [.ref aG, .ref aX, .int nx, .int lt, .int sm, .int ex])), (aG, .inl (cG, 32, .inl g)), (aX, .inl (cX, 64, .inl sp)), (aI, .inr (5, [.int iw, .int io, .int id, .int ia, .int ib, .int ii, .int is, .int iu])), (aL, .inr (6, [.ref aS]))] (f_Log_runsShift g sp iw id ia ib ii).1 [(aS, .inr (9, [.ref aG, .ref aX, .int nx, .int lt, .int sm, .int ex])), (aG, .inl (cG, 32, .inl (f_Log_runsShift g sp iw id ia ib ii).2.1)), (aX, .inl (cX, 64, .inl (f_Log_runsShift g sp iw id ia ib ii).2.2)), (aI, .inr (5, [.int iw, .int io, .int id, .int ia, .int ib, .int ii, .int is, .int iu])), (aL, .inr (6, [.ref aS]))] := by
  refine k_entry (Qc := fun A => kQi D kCl [(cG, .int), (cX, .int)] (f_Log_runsShift g sp iw id ia ib ii).1 [(aS, .inr (9, [.ref aG, .ref aX, .int nx, .int lt, .int sm, .int ex])), (aG, .inl (cG, 32, .inl (f_Log_runsShift g sp iw id ia ib ii).2.1)), (aX, .inl (cX, 64, .inl (f_Log_runsShift g sp iw id ia ib ii).2.2)), (aI, .inr (5, [.int iw, .int io, .int id, .int ia, .int ib, .int ii, .int is, .int iu])), (aL, .inr (6, [.ref aS]))] A) (lv := [(0, .ref aL), (1, .ref aI)]) (by decide) (Nat.le_of_ble_eq_true rfl) rfl ?_
  intro p e s m below meth c A ls hx hb hr hml hB hown hlocks hin hA hK hN hP hD hS hl
  have hown : s.vm.findClass "MappedProcessor$Logic" = some m.cls := hown
  refine lv_aload_n hx hb d_Log_runsShift_0 rfl (lv_at hl 0 rfl) ?_
  refine va_get (D := D) (ci := 6) (v := .ref aS) (C := "MappedProcessor$Logic") (T := T_Log) (N := 1) hx hb hB iw_Log hown hK hP 4 rfl rfl 0 (by decide) (hB _ mw_169) (fun _ h9 => h9) rfl d_Log_runsShift_1 ?_
  refine lv_aload_n hx hb d_Log_runsShift_4 rfl (lv_at hl 1 rfl) ?_
  refine va_get (D := D) (ci := 5) (v := .int id) (C := "MappedProcessor$Instruction") (T := T_Ins) (N := 8) hx hb hB iw_Ins hown hK hP 3 rfl rfl 2 (by decide) (hB _ mw_90) (fun _ h9 => h9) rfl d_Log_runsShift_5 ?_
  refine k_cVi (As := [.int id]) (rest := []) (wr := [(aI, .inr (5, [.int iw, .int io, .int id, .int ia, .int ib, .int ii, .int is, .int iu])), (aL, .inr (6, [.ref aS]))]) (wj := [(aS, .inr (9, [.ref aG, .ref aX, .int nx, .int lt, .int sm, .int ex])), (aG, .inl (cG, 32, .inl g)), (aX, .inl (cX, 64, .inl sp)), (aI, .inr (5, [.int iw, .int io, .int id, .int ia, .int ib, .int ii, .int is, .int iu])), (aL, .inr (6, [.ref aS]))]) ⟨hx, hb, hml, hown, hB⟩ (c_Sta_register l D aS aG aX cG cX g sp nx lt sm ex id) yl_Sta_register mw_483 hK hN hP hD hS hA [0, 1] [0, 1, 2] [3, 4] [2, 3, 4, 0, 1] rfl rfl rfl rfl (by decide +kernel) 0 rfl rfl rfl rfl hl.1 rfl (Nat.le_of_ble_eq_true rfl) ⟨Nat.le_of_ble_eq_true rfl, Nat.le_of_ble_eq_true rfl⟩ d_Log_runsShift_8 ⟨Nat.le_of_ble_eq_true rfl, Nat.le_of_ble_eq_true rfl⟩ (fun H locs hP hD hS => ?_)
  refine lv_istore_n (lv' := [(2, .int (f_Sta_register id g)), (0, .ref aL), (1, .ref aI)]) hx hb d_Log_runsShift_11 rfl hl (by decide) rfl (fun ls hl => ?_)
  refine lv_aload_n hx hb d_Log_runsShift_12 rfl (lv_at hl 1 rfl) ?_
  refine va_get (D := D) (ci := 6) (v := .ref aS) (C := "MappedProcessor$Logic") (T := T_Log) (N := 1) hx hb hB iw_Log hown hK hP 4 rfl rfl 0 (by decide) (hB _ mw_169) (fun _ h9 => h9) rfl d_Log_runsShift_13 ?_
  refine lv_aload_n hx hb d_Log_runsShift_16 rfl (lv_at hl 2 rfl) ?_
  refine va_get (D := D) (ci := 5) (v := .int ib) (C := "MappedProcessor$Instruction") (T := T_Ins) (N := 8) hx hb hB iw_Ins hown hK hP 3 rfl rfl 4 (by decide) (hB _ mw_105) (fun _ h9 => h9) rfl d_Log_runsShift_17 ?_
  refine k_cVi (As := [.int ib]) (rest := []) (wr := [(aI, .inr (5, [.int iw, .int io, .int id, .int ia, .int ib, .int ii, .int is, .int iu])), (aL, .inr (6, [.ref aS]))]) (wj := [(aS, .inr (9, [.ref aG, .ref aX, .int nx, .int lt, .int sm, .int ex])), (aG, .inl (cG, 32, .inl g)), (aX, .inl (cX, 64, .inl sp)), (aI, .inr (5, [.int iw, .int io, .int id, .int ia, .int ib, .int ii, .int is, .int iu])), (aL, .inr (6, [.ref aS]))]) ⟨hx, hb, hml, hown, hB⟩ (c_Sta_register l D aS aG aX cG cX g sp nx lt sm ex ib) yl_Sta_register mw_483 hK hN hP hD hS hA [0, 1] [0, 1, 2] [3, 4] [2, 3, 4, 0, 1] rfl rfl rfl rfl (by decide +kernel) 0 rfl rfl rfl rfl hl.1 rfl (Nat.le_of_ble_eq_true rfl) ⟨Nat.le_of_ble_eq_true rfl, Nat.le_of_ble_eq_true rfl⟩ d_Log_runsShift_20 ⟨Nat.le_of_ble_eq_true rfl, Nat.le_of_ble_eq_true rfl⟩ (fun H locs hP hD hS => ?_)
  refine lv_bipush (v := (63 : Int32)) hx hb d_Log_runsShift_23 (by decide) ?_
  refine lv_iand hx hb d_Log_runsShift_25 ?_
  refine lv_istore_n (lv' := [(3, .int ((f_Sta_register ib g) &&& (63 : Int32))), (2, .int (f_Sta_register id g)), (0, .ref aL), (1, .ref aI)]) hx hb d_Log_runsShift_26 rfl hl (by decide) rfl (fun ls hl => ?_)
  refine lv_aload_n hx hb d_Log_runsShift_27 rfl (lv_at hl 3 rfl) ?_
  refine va_get (D := D) (ci := 5) (v := .int ii) (C := "MappedProcessor$Instruction") (T := T_Ins) (N := 8) hx hb hB iw_Ins hown hK hP 3 rfl rfl 5 (by decide) (hB _ mw_117) (fun _ h9 => h9) rfl d_Log_runsShift_28 ?_
  by_cases h1 : ii = (24 : Int32)
  · refine lv_lookup (off := 41) (tgt := 72) hx hb d_Log_runsShift_31 (by decide) (by have hq9 := h1 <;> rw [hq9] <;> rfl) (by decide) ?_
    refine lv_iload_n hx hb d_Log_runsShift_72 rfl (lv_at hl 0 rfl) ?_
    refine lv_bipush (v := (31 : Int32)) hx hb d_Log_runsShift_73 (by decide) ?_
    refine k_join2 (c0 := ((f_Sta_register ib g) &&& (63 : Int32)) ≤ (31 : Int32)) (x1 := (shl (f_Sta_register id g) ((f_Sta_register ib g) &&& (63 : Int32)))) (x2 := (0 : Int32)) (rest := []) 85 ?_ (fun k3 k4 => ?_)
    rotate_left
    · refine lv_icmp_le (tgt := 82) hx hb d_Log_runsShift_75 (by decide) (fun (h2 : ((f_Sta_register ib g) &&& (63 : Int32)) ≤ (31 : Int32)) => ?_) (fun (h2 : ¬ ((f_Sta_register ib g) &&& (63 : Int32)) ≤ (31 : Int32)) => ?_)
      · refine lv_iload_n hx hb d_Log_runsShift_82 rfl (lv_at hl 1 rfl) ?_
        refine lv_iload_n hx hb d_Log_runsShift_83 rfl (lv_at hl 0 rfl) ?_
        refine lv_ishl hx hb d_Log_runsShift_84 ?_
        exact k3 h2
      · refine lv_iconst (v := (0 : Int32)) hx hb d_Log_runsShift_78 (by decide) ?_
        refine lv_goto (tgt := 85) hx hb d_Log_runsShift_79 (by decide) ?_
        exact k4 h2
    refine lv_istore (lv' := [(4, .int (if ((f_Sta_register ib g) &&& (63 : Int32)) ≤ (31 : Int32) then (shl (f_Sta_register id g) ((f_Sta_register ib g) &&& (63 : Int32))) else (0 : Int32))), (3, .int ((f_Sta_register ib g) &&& (63 : Int32))), (2, .int (f_Sta_register id g)), (0, .ref aL), (1, .ref aI)]) hx hb d_Log_runsShift_85 hl (by decide) rfl (fun ls hl => ?_)
    refine lv_goto (tgt := 135) hx hb d_Log_runsShift_87 (by decide) ?_
    refine lv_aload_n hx hb d_Log_runsShift_135 rfl (lv_at hl 3 rfl) ?_
    refine va_get (D := D) (ci := 6) (v := .ref aS) (C := "MappedProcessor$Logic") (T := T_Log) (N := 1) hx hb hB iw_Log hown hK hP 4 rfl rfl 0 (by decide) (hB _ mw_169) (fun _ h9 => h9) rfl d_Log_runsShift_136 ?_
    refine lv_aload_n hx hb d_Log_runsShift_139 rfl (lv_at hl 4 rfl) ?_
    refine va_get (D := D) (ci := 5) (v := .int ia) (C := "MappedProcessor$Instruction") (T := T_Ins) (N := 8) hx hb hB iw_Ins hown hK hP 3 rfl rfl 3 (by decide) (hB _ mw_102) (fun _ h9 => h9) rfl d_Log_runsShift_140 ?_
    refine lv_iload hx hb d_Log_runsShift_143 (lv_at hl 0 rfl) ?_
    refine lv_aload_n hx hb d_Log_runsShift_145 rfl (lv_at hl 4 rfl) ?_
    refine lv_iconst (v := (1 : Int32)) hx hb d_Log_runsShift_146 (by decide) ?_
    refine k_cVi (As := [.int (1 : Int32)]) (rest := [.int (if ((f_Sta_register ib g) &&& (63 : Int32)) ≤ (31 : Int32) then (shl (f_Sta_register id g) ((f_Sta_register ib g) &&& (63 : Int32))) else (0 : Int32)), .int ia, .ref aS]) (wr := [(aS, .inr (9, [.ref aG, .ref aX, .int nx, .int lt, .int sm, .int ex])), (aG, .inl (cG, 32, .inl g)), (aX, .inl (cX, 64, .inl sp)), (aL, .inr (6, [.ref aS]))]) (wj := [(aS, .inr (9, [.ref aG, .ref aX, .int nx, .int lt, .int sm, .int ex])), (aG, .inl (cG, 32, .inl g)), (aX, .inl (cX, 64, .inl sp)), (aI, .inr (5, [.int iw, .int io, .int id, .int ia, .int ib, .int ii, .int is, .int iu])), (aL, .inr (6, [.ref aS]))]) ⟨hx, hb, hml, hown, hB⟩ (c_Ins_has l D aI iw io id ia ib ii is iu (1 : Int32)) yl_Ins_has mw_490 hK hN hP hD hS hA [] [3] [0, 1, 2, 4] [0, 1, 2, 4, 3] rfl rfl rfl rfl (by decide +kernel) 0 rfl rfl rfl rfl hl.1 rfl (Nat.le_of_ble_eq_true rfl) ⟨Nat.le_of_ble_eq_true rfl, Nat.le_of_ble_eq_true rfl⟩ d_Log_runsShift_147 ⟨Nat.le_of_ble_eq_true rfl, Nat.le_of_ble_eq_true rfl⟩ (fun H locs hP hD hS => ?_)
    let t7 := (f_Sta_keepResult ia (if ((f_Sta_register ib g) &&& (63 : Int32)) ≤ (31 : Int32) then (shl (f_Sta_register id g) ((f_Sta_register ib g) &&& (63 : Int32))) else (0 : Int32)) (f_Ins_has (1 : Int32) iw) g sp)
    refine k_cVv (As := [.int ia, .int (if ((f_Sta_register ib g) &&& (63 : Int32)) ≤ (31 : Int32) then (shl (f_Sta_register id g) ((f_Sta_register ib g) &&& (63 : Int32))) else (0 : Int32)), .int (f_Ins_has (1 : Int32) iw)]) (rest := []) (wr := [(aI, .inr (5, [.int iw, .int io, .int id, .int ia, .int ib, .int ii, .int is, .int iu])), (aL, .inr (6, [.ref aS]))]) (wj := [(aS, .inr (9, [.ref aG, .ref aX, .int nx, .int lt, .int sm, .int ex])), (aG, .inl (cG, 32, .inl t7.1)), (aX, .inl (cX, 64, .inl t7.2)), (aI, .inr (5, [.int iw, .int io, .int id, .int ia, .int ib, .int ii, .int is, .int iu])), (aL, .inr (6, [.ref aS]))]) ⟨hx, hb, hml, hown, hB⟩ (c_Sta_keepResult l D aS aG aX cG cX g sp nx lt sm ex ia (if ((f_Sta_register ib g) &&& (63 : Int32)) ≤ (31 : Int32) then (shl (f_Sta_register id g) ((f_Sta_register ib g) &&& (63 : Int32))) else (0 : Int32)) (f_Ins_has (1 : Int32) iw)) yl_Sta_keepResult mw_491 hK hN hP hD hS hA [0, 1] [0, 1, 2] [3, 4] [2, 3, 4, 0, 1] rfl rfl rfl rfl (by decide +kernel) 0 rfl rfl rfl rfl hl.1 rfl (Nat.le_of_ble_eq_true rfl) ⟨Nat.le_of_ble_eq_true rfl, Nat.le_of_ble_eq_true rfl⟩ d_Log_runsShift_150 ⟨Nat.le_of_ble_eq_true rfl, Nat.le_of_ble_eq_true rfl⟩ (fun H locs hP hD hS => ?_)
    refine lv_iconst (v := (1 : Int32)) hx hb d_Log_runsShift_153 (by decide) ?_
    have ef : f_Log_runsShift g sp iw id ia ib ii = ((1 : Int32), t7.1, t7.2) := by unfold f_Log_runsShift; try dsimp only; rw [if_pos h1]
    exact k_zret hx hb hr hlocks hK hP hD hS [0, 1, 2, 3, 4] rfl (by rw [ef] <;> rfl) (by rw [ef] <;> rfl) nb1 d_Log_runsShift_154
  · by_cases h8 : ii = (536 : Int32)
    · refine lv_lookup (off := 59) (tgt := 90) hx hb d_Log_runsShift_31 (by decide) (by have hq9 := h8 <;> rw [hq9] <;> rfl) (by decide) ?_
      refine lv_iload_n hx hb d_Log_runsShift_90 rfl (lv_at hl 0 rfl) ?_
      refine lv_bipush (v := (31 : Int32)) hx hb d_Log_runsShift_91 (by decide) ?_
      refine k_join2 (c0 := ((f_Sta_register ib g) &&& (63 : Int32)) ≤ (31 : Int32)) (x1 := (ush (f_Sta_register id g) ((f_Sta_register ib g) &&& (63 : Int32)))) (x2 := (0 : Int32)) (rest := []) 103 ?_ (fun k10 k11 => ?_)
      rotate_left
      · refine lv_icmp_le (tgt := 100) hx hb d_Log_runsShift_93 (by decide) (fun (h9 : ((f_Sta_register ib g) &&& (63 : Int32)) ≤ (31 : Int32)) => ?_) (fun (h9 : ¬ ((f_Sta_register ib g) &&& (63 : Int32)) ≤ (31 : Int32)) => ?_)
        · refine lv_iload_n hx hb d_Log_runsShift_100 rfl (lv_at hl 1 rfl) ?_
          refine lv_iload_n hx hb d_Log_runsShift_101 rfl (lv_at hl 0 rfl) ?_
          refine lv_iushr (v := (ush (f_Sta_register id g) ((f_Sta_register ib g) &&& (63 : Int32)))) hx hb d_Log_runsShift_102 rfl ?_
          exact k10 h9
        · refine lv_iconst (v := (0 : Int32)) hx hb d_Log_runsShift_96 (by decide) ?_
          refine lv_goto (tgt := 103) hx hb d_Log_runsShift_97 (by decide) ?_
          exact k11 h9
      refine lv_istore (lv' := [(4, .int (if ((f_Sta_register ib g) &&& (63 : Int32)) ≤ (31 : Int32) then (ush (f_Sta_register id g) ((f_Sta_register ib g) &&& (63 : Int32))) else (0 : Int32))), (3, .int ((f_Sta_register ib g) &&& (63 : Int32))), (2, .int (f_Sta_register id g)), (0, .ref aL), (1, .ref aI)]) hx hb d_Log_runsShift_103 hl (by decide) rfl (fun ls hl => ?_)
      refine lv_goto (tgt := 135) hx hb d_Log_runsShift_105 (by decide) ?_
      refine lv_aload_n hx hb d_Log_runsShift_135 rfl (lv_at hl 3 rfl) ?_
      refine va_get (D := D) (ci := 6) (v := .ref aS) (C := "MappedProcessor$Logic") (T := T_Log) (N := 1) hx hb hB iw_Log hown hK hP 4 rfl rfl 0 (by decide) (hB _ mw_169) (fun _ h9 => h9) rfl d_Log_runsShift_136 ?_
      refine lv_aload_n hx hb d_Log_runsShift_139 rfl (lv_at hl 4 rfl) ?_
      refine va_get (D := D) (ci := 5) (v := .int ia) (C := "MappedProcessor$Instruction") (T := T_Ins) (N := 8) hx hb hB iw_Ins hown hK hP 3 rfl rfl 3 (by decide) (hB _ mw_102) (fun _ h9 => h9) rfl d_Log_runsShift_140 ?_
      refine lv_iload hx hb d_Log_runsShift_143 (lv_at hl 0 rfl) ?_
      refine lv_aload_n hx hb d_Log_runsShift_145 rfl (lv_at hl 4 rfl) ?_
      refine lv_iconst (v := (1 : Int32)) hx hb d_Log_runsShift_146 (by decide) ?_
      refine k_cVi (As := [.int (1 : Int32)]) (rest := [.int (if ((f_Sta_register ib g) &&& (63 : Int32)) ≤ (31 : Int32) then (ush (f_Sta_register id g) ((f_Sta_register ib g) &&& (63 : Int32))) else (0 : Int32)), .int ia, .ref aS]) (wr := [(aS, .inr (9, [.ref aG, .ref aX, .int nx, .int lt, .int sm, .int ex])), (aG, .inl (cG, 32, .inl g)), (aX, .inl (cX, 64, .inl sp)), (aL, .inr (6, [.ref aS]))]) (wj := [(aS, .inr (9, [.ref aG, .ref aX, .int nx, .int lt, .int sm, .int ex])), (aG, .inl (cG, 32, .inl g)), (aX, .inl (cX, 64, .inl sp)), (aI, .inr (5, [.int iw, .int io, .int id, .int ia, .int ib, .int ii, .int is, .int iu])), (aL, .inr (6, [.ref aS]))]) ⟨hx, hb, hml, hown, hB⟩ (c_Ins_has l D aI iw io id ia ib ii is iu (1 : Int32)) yl_Ins_has mw_490 hK hN hP hD hS hA [] [3] [0, 1, 2, 4] [0, 1, 2, 4, 3] rfl rfl rfl rfl (by decide +kernel) 0 rfl rfl rfl rfl hl.1 rfl (Nat.le_of_ble_eq_true rfl) ⟨Nat.le_of_ble_eq_true rfl, Nat.le_of_ble_eq_true rfl⟩ d_Log_runsShift_147 ⟨Nat.le_of_ble_eq_true rfl, Nat.le_of_ble_eq_true rfl⟩ (fun H locs hP hD hS => ?_)
      let t14 := (f_Sta_keepResult ia (if ((f_Sta_register ib g) &&& (63 : Int32)) ≤ (31 : Int32) then (ush (f_Sta_register id g) ((f_Sta_register ib g) &&& (63 : Int32))) else (0 : Int32)) (f_Ins_has (1 : Int32) iw) g sp)
      refine k_cVv (As := [.int ia, .int (if ((f_Sta_register ib g) &&& (63 : Int32)) ≤ (31 : Int32) then (ush (f_Sta_register id g) ((f_Sta_register ib g) &&& (63 : Int32))) else (0 : Int32)), .int (f_Ins_has (1 : Int32) iw)]) (rest := []) (wr := [(aI, .inr (5, [.int iw, .int io, .int id, .int ia, .int ib, .int ii, .int is, .int iu])), (aL, .inr (6, [.ref aS]))]) (wj := [(aS, .inr (9, [.ref aG, .ref aX, .int nx, .int lt, .int sm, .int ex])), (aG, .inl (cG, 32, .inl t14.1)), (aX, .inl (cX, 64, .inl t14.2)), (aI, .inr (5, [.int iw, .int io, .int id, .int ia, .int ib, .int ii, .int is, .int iu])), (aL, .inr (6, [.ref aS]))]) ⟨hx, hb, hml, hown, hB⟩ (c_Sta_keepResult l D aS aG aX cG cX g sp nx lt sm ex ia (if ((f_Sta_register ib g) &&& (63 : Int32)) ≤ (31 : Int32) then (ush (f_Sta_register id g) ((f_Sta_register ib g) &&& (63 : Int32))) else (0 : Int32)) (f_Ins_has (1 : Int32) iw)) yl_Sta_keepResult mw_491 hK hN hP hD hS hA [0, 1] [0, 1, 2] [3, 4] [2, 3, 4, 0, 1] rfl rfl rfl rfl (by decide +kernel) 0 rfl rfl rfl rfl hl.1 rfl (Nat.le_of_ble_eq_true rfl) ⟨Nat.le_of_ble_eq_true rfl, Nat.le_of_ble_eq_true rfl⟩ d_Log_runsShift_150 ⟨Nat.le_of_ble_eq_true rfl, Nat.le_of_ble_eq_true rfl⟩ (fun H locs hP hD hS => ?_)
      refine lv_iconst (v := (1 : Int32)) hx hb d_Log_runsShift_153 (by decide) ?_
      have ef : f_Log_runsShift g sp iw id ia ib ii = ((1 : Int32), t14.1, t14.2) := by unfold f_Log_runsShift; try dsimp only; rw [if_neg h1, if_pos h8]
      exact k_zret hx hb hr hlocks hK hP hD hS [0, 1, 2, 3, 4] rfl (by rw [ef] <;> rfl) (by rw [ef] <;> rfl) nb1 d_Log_runsShift_154
    · by_cases h15 : ii = (792 : Int32)
      · refine lv_lookup (off := 77) (tgt := 108) hx hb d_Log_runsShift_31 (by decide) (by have hq9 := h15 <;> rw [hq9] <;> rfl) (by decide) ?_
        refine lv_aload_n hx hb d_Log_runsShift_108 rfl (lv_at hl 2 rfl) ?_
        refine lv_iload_n hx hb d_Log_runsShift_109 rfl (lv_at hl 1 rfl) ?_
        refine lv_iload_n hx hb d_Log_runsShift_110 rfl (lv_at hl 0 rfl) ?_
        let t16 := (f_Log_signedShift (f_Sta_register id g) ((f_Sta_register ib g) &&& (63 : Int32)) sp)
        refine k_cVi (As := [.int (f_Sta_register id g), .int ((f_Sta_register ib g) &&& (63 : Int32))]) (rest := []) (wr := [(aI, .inr (5, [.int iw, .int io, .int id, .int ia, .int ib, .int ii, .int is, .int iu]))]) (wj := [(aS, .inr (9, [.ref aG, .ref aX, .int nx, .int lt, .int sm, .int ex])), (aG, .inl (cG, 32, .inl g)), (aX, .inl (cX, 64, .inl t16.2)), (aI, .inr (5, [.int iw, .int io, .int id, .int ia, .int ib, .int ii, .int is, .int iu])), (aL, .inr (6, [.ref aS]))]) ⟨hx, hb, hml, hown, hB⟩ (c_Log_signedShift l D aS aG aX aL cG cX g sp nx lt sm ex (f_Sta_register id g) ((f_Sta_register ib g) &&& (63 : Int32))) yl_Log_signedShift mw_525 hK hN hP hD hS hA [0, 1] [0, 1, 2, 4] [3] [1, 2, 3, 0, 4] rfl rfl rfl rfl (by decide +kernel) 3 rfl rfl rfl rfl hl.1 rfl (Nat.le_of_ble_eq_true rfl) ⟨Nat.le_of_ble_eq_true rfl, Nat.le_of_ble_eq_true rfl⟩ d_Log_runsShift_111 ⟨Nat.le_of_ble_eq_true rfl, Nat.le_of_ble_eq_true rfl⟩ (fun H locs hP hD hS => ?_)
        refine lv_istore (lv' := [(4, .int t16.1), (3, .int ((f_Sta_register ib g) &&& (63 : Int32))), (2, .int (f_Sta_register id g)), (0, .ref aL), (1, .ref aI)]) hx hb d_Log_runsShift_114 hl (by decide) rfl (fun ls hl => ?_)
        refine lv_goto (tgt := 135) hx hb d_Log_runsShift_116 (by decide) ?_
        refine lv_aload_n hx hb d_Log_runsShift_135 rfl (lv_at hl 3 rfl) ?_
        refine va_get (D := D) (ci := 6) (v := .ref aS) (C := "MappedProcessor$Logic") (T := T_Log) (N := 1) hx hb hB iw_Log hown hK hP 4 rfl rfl 0 (by decide) (hB _ mw_169) (fun _ h9 => h9) rfl d_Log_runsShift_136 ?_
        refine lv_aload_n hx hb d_Log_runsShift_139 rfl (lv_at hl 4 rfl) ?_
        refine va_get (D := D) (ci := 5) (v := .int ia) (C := "MappedProcessor$Instruction") (T := T_Ins) (N := 8) hx hb hB iw_Ins hown hK hP 3 rfl rfl 3 (by decide) (hB _ mw_102) (fun _ h9 => h9) rfl d_Log_runsShift_140 ?_
        refine lv_iload hx hb d_Log_runsShift_143 (lv_at hl 0 rfl) ?_
        refine lv_aload_n hx hb d_Log_runsShift_145 rfl (lv_at hl 4 rfl) ?_
        refine lv_iconst (v := (1 : Int32)) hx hb d_Log_runsShift_146 (by decide) ?_
        refine k_cVi (As := [.int (1 : Int32)]) (rest := [.int t16.1, .int ia, .ref aS]) (wr := [(aS, .inr (9, [.ref aG, .ref aX, .int nx, .int lt, .int sm, .int ex])), (aG, .inl (cG, 32, .inl g)), (aX, .inl (cX, 64, .inl t16.2)), (aL, .inr (6, [.ref aS]))]) (wj := [(aS, .inr (9, [.ref aG, .ref aX, .int nx, .int lt, .int sm, .int ex])), (aG, .inl (cG, 32, .inl g)), (aX, .inl (cX, 64, .inl t16.2)), (aI, .inr (5, [.int iw, .int io, .int id, .int ia, .int ib, .int ii, .int is, .int iu])), (aL, .inr (6, [.ref aS]))]) ⟨hx, hb, hml, hown, hB⟩ (c_Ins_has l D aI iw io id ia ib ii is iu (1 : Int32)) yl_Ins_has mw_490 hK hN hP hD hS hA [] [3] [0, 1, 2, 4] [0, 1, 2, 4, 3] rfl rfl rfl rfl (by decide +kernel) 0 rfl rfl rfl rfl hl.1 rfl (Nat.le_of_ble_eq_true rfl) ⟨Nat.le_of_ble_eq_true rfl, Nat.le_of_ble_eq_true rfl⟩ d_Log_runsShift_147 ⟨Nat.le_of_ble_eq_true rfl, Nat.le_of_ble_eq_true rfl⟩ (fun H locs hP hD hS => ?_)
        let t17 := (f_Sta_keepResult ia t16.1 (f_Ins_has (1 : Int32) iw) g t16.2)
        refine k_cVv (As := [.int ia, .int t16.1, .int (f_Ins_has (1 : Int32) iw)]) (rest := []) (wr := [(aI, .inr (5, [.int iw, .int io, .int id, .int ia, .int ib, .int ii, .int is, .int iu])), (aL, .inr (6, [.ref aS]))]) (wj := [(aS, .inr (9, [.ref aG, .ref aX, .int nx, .int lt, .int sm, .int ex])), (aG, .inl (cG, 32, .inl t17.1)), (aX, .inl (cX, 64, .inl t17.2)), (aI, .inr (5, [.int iw, .int io, .int id, .int ia, .int ib, .int ii, .int is, .int iu])), (aL, .inr (6, [.ref aS]))]) ⟨hx, hb, hml, hown, hB⟩ (c_Sta_keepResult l D aS aG aX cG cX g t16.2 nx lt sm ex ia t16.1 (f_Ins_has (1 : Int32) iw)) yl_Sta_keepResult mw_491 hK hN hP hD hS hA [0, 1] [0, 1, 2] [3, 4] [2, 3, 4, 0, 1] rfl rfl rfl rfl (by decide +kernel) 0 rfl rfl rfl rfl hl.1 rfl (Nat.le_of_ble_eq_true rfl) ⟨Nat.le_of_ble_eq_true rfl, Nat.le_of_ble_eq_true rfl⟩ d_Log_runsShift_150 ⟨Nat.le_of_ble_eq_true rfl, Nat.le_of_ble_eq_true rfl⟩ (fun H locs hP hD hS => ?_)
        refine lv_iconst (v := (1 : Int32)) hx hb d_Log_runsShift_153 (by decide) ?_
        have ef : f_Log_runsShift g sp iw id ia ib ii = ((1 : Int32), t17.1, t17.2) := by unfold f_Log_runsShift; try dsimp only; rw [if_neg h1, if_neg h8, if_pos h15]
        exact k_zret hx hb hr hlocks hK hP hD hS [0, 1, 2, 3, 4] rfl (by rw [ef] <;> rfl) (by rw [ef] <;> rfl) nb1 d_Log_runsShift_154
      · by_cases h18 : ii = (824 : Int32)
        · refine lv_lookup (off := 88) (tgt := 119) hx hb d_Log_runsShift_31 (by decide) (by have hq9 := h18 <;> rw [hq9] <;> rfl) (by decide) ?_
          refine lv_aload_n hx hb d_Log_runsShift_119 rfl (lv_at hl 2 rfl) ?_
          refine lv_iload_n hx hb d_Log_runsShift_120 rfl (lv_at hl 1 rfl) ?_
          refine lv_aload_n hx hb d_Log_runsShift_121 rfl (lv_at hl 3 rfl) ?_
          refine va_get (D := D) (ci := 5) (v := .int ib) (C := "MappedProcessor$Instruction") (T := T_Ins) (N := 8) hx hb hB iw_Ins hown hK hP 3 rfl rfl 4 (by decide) (hB _ mw_105) (fun _ h9 => h9) rfl d_Log_runsShift_122 ?_
          let t19 := (f_Log_signedShift (f_Sta_register id g) ib sp)
          refine k_cVi (As := [.int (f_Sta_register id g), .int ib]) (rest := []) (wr := [(aI, .inr (5, [.int iw, .int io, .int id, .int ia, .int ib, .int ii, .int is, .int iu]))]) (wj := [(aS, .inr (9, [.ref aG, .ref aX, .int nx, .int lt, .int sm, .int ex])), (aG, .inl (cG, 32, .inl g)), (aX, .inl (cX, 64, .inl t19.2)), (aI, .inr (5, [.int iw, .int io, .int id, .int ia, .int ib, .int ii, .int is, .int iu])), (aL, .inr (6, [.ref aS]))]) ⟨hx, hb, hml, hown, hB⟩ (c_Log_signedShift l D aS aG aX aL cG cX g sp nx lt sm ex (f_Sta_register id g) ib) yl_Log_signedShift mw_525 hK hN hP hD hS hA [0, 1] [0, 1, 2, 4] [3] [1, 2, 3, 0, 4] rfl rfl rfl rfl (by decide +kernel) 3 rfl rfl rfl rfl hl.1 rfl (Nat.le_of_ble_eq_true rfl) ⟨Nat.le_of_ble_eq_true rfl, Nat.le_of_ble_eq_true rfl⟩ d_Log_runsShift_125 ⟨Nat.le_of_ble_eq_true rfl, Nat.le_of_ble_eq_true rfl⟩ (fun H locs hP hD hS => ?_)
          refine lv_istore (lv' := [(4, .int t19.1), (3, .int ((f_Sta_register ib g) &&& (63 : Int32))), (2, .int (f_Sta_register id g)), (0, .ref aL), (1, .ref aI)]) hx hb d_Log_runsShift_128 hl (by decide) rfl (fun ls hl => ?_)
          refine lv_goto (tgt := 135) hx hb d_Log_runsShift_130 (by decide) ?_
          refine lv_aload_n hx hb d_Log_runsShift_135 rfl (lv_at hl 3 rfl) ?_
          refine va_get (D := D) (ci := 6) (v := .ref aS) (C := "MappedProcessor$Logic") (T := T_Log) (N := 1) hx hb hB iw_Log hown hK hP 4 rfl rfl 0 (by decide) (hB _ mw_169) (fun _ h9 => h9) rfl d_Log_runsShift_136 ?_
          refine lv_aload_n hx hb d_Log_runsShift_139 rfl (lv_at hl 4 rfl) ?_
          refine va_get (D := D) (ci := 5) (v := .int ia) (C := "MappedProcessor$Instruction") (T := T_Ins) (N := 8) hx hb hB iw_Ins hown hK hP 3 rfl rfl 3 (by decide) (hB _ mw_102) (fun _ h9 => h9) rfl d_Log_runsShift_140 ?_
          refine lv_iload hx hb d_Log_runsShift_143 (lv_at hl 0 rfl) ?_
          refine lv_aload_n hx hb d_Log_runsShift_145 rfl (lv_at hl 4 rfl) ?_
          refine lv_iconst (v := (1 : Int32)) hx hb d_Log_runsShift_146 (by decide) ?_
          refine k_cVi (As := [.int (1 : Int32)]) (rest := [.int t19.1, .int ia, .ref aS]) (wr := [(aS, .inr (9, [.ref aG, .ref aX, .int nx, .int lt, .int sm, .int ex])), (aG, .inl (cG, 32, .inl g)), (aX, .inl (cX, 64, .inl t19.2)), (aL, .inr (6, [.ref aS]))]) (wj := [(aS, .inr (9, [.ref aG, .ref aX, .int nx, .int lt, .int sm, .int ex])), (aG, .inl (cG, 32, .inl g)), (aX, .inl (cX, 64, .inl t19.2)), (aI, .inr (5, [.int iw, .int io, .int id, .int ia, .int ib, .int ii, .int is, .int iu])), (aL, .inr (6, [.ref aS]))]) ⟨hx, hb, hml, hown, hB⟩ (c_Ins_has l D aI iw io id ia ib ii is iu (1 : Int32)) yl_Ins_has mw_490 hK hN hP hD hS hA [] [3] [0, 1, 2, 4] [0, 1, 2, 4, 3] rfl rfl rfl rfl (by decide +kernel) 0 rfl rfl rfl rfl hl.1 rfl (Nat.le_of_ble_eq_true rfl) ⟨Nat.le_of_ble_eq_true rfl, Nat.le_of_ble_eq_true rfl⟩ d_Log_runsShift_147 ⟨Nat.le_of_ble_eq_true rfl, Nat.le_of_ble_eq_true rfl⟩ (fun H locs hP hD hS => ?_)
          let t20 := (f_Sta_keepResult ia t19.1 (f_Ins_has (1 : Int32) iw) g t19.2)
          refine k_cVv (As := [.int ia, .int t19.1, .int (f_Ins_has (1 : Int32) iw)]) (rest := []) (wr := [(aI, .inr (5, [.int iw, .int io, .int id, .int ia, .int ib, .int ii, .int is, .int iu])), (aL, .inr (6, [.ref aS]))]) (wj := [(aS, .inr (9, [.ref aG, .ref aX, .int nx, .int lt, .int sm, .int ex])), (aG, .inl (cG, 32, .inl t20.1)), (aX, .inl (cX, 64, .inl t20.2)), (aI, .inr (5, [.int iw, .int io, .int id, .int ia, .int ib, .int ii, .int is, .int iu])), (aL, .inr (6, [.ref aS]))]) ⟨hx, hb, hml, hown, hB⟩ (c_Sta_keepResult l D aS aG aX cG cX g t19.2 nx lt sm ex ia t19.1 (f_Ins_has (1 : Int32) iw)) yl_Sta_keepResult mw_491 hK hN hP hD hS hA [0, 1] [0, 1, 2] [3, 4] [2, 3, 4, 0, 1] rfl rfl rfl rfl (by decide +kernel) 0 rfl rfl rfl rfl hl.1 rfl (Nat.le_of_ble_eq_true rfl) ⟨Nat.le_of_ble_eq_true rfl, Nat.le_of_ble_eq_true rfl⟩ d_Log_runsShift_150 ⟨Nat.le_of_ble_eq_true rfl, Nat.le_of_ble_eq_true rfl⟩ (fun H locs hP hD hS => ?_)
          refine lv_iconst (v := (1 : Int32)) hx hb d_Log_runsShift_153 (by decide) ?_
          have ef : f_Log_runsShift g sp iw id ia ib ii = ((1 : Int32), t20.1, t20.2) := by unfold f_Log_runsShift; try dsimp only; rw [if_neg h1, if_neg h8, if_neg h15, if_pos h18]
          exact k_zret hx hb hr hlocks hK hP hD hS [0, 1, 2, 3, 4] rfl (by rw [ef] <;> rfl) (by rw [ef] <;> rfl) nb1 d_Log_runsShift_154
        · refine lv_lookup (off := 102) (tgt := 133) hx hb d_Log_runsShift_31 (by decide) (by rw [lv_osw (k := (24 : Int32)) h1 (by decide), lv_osw (k := (536 : Int32)) h8 (by decide), lv_osw (k := (792 : Int32)) h15 (by decide), lv_osw (k := (824 : Int32)) h18 (by decide)]; rfl) (by decide) ?_
          refine lv_iconst (v := (0 : Int32)) hx hb d_Log_runsShift_133 (by decide) ?_
          have ef : f_Log_runsShift g sp iw id ia ib ii = ((0 : Int32), g, sp) := by unfold f_Log_runsShift; try dsimp only; rw [if_neg h1, if_neg h8, if_neg h15, if_neg h18]
          exact k_zret hx hb hr hlocks hK hP hD hS [0, 1, 2, 3, 4] rfl (by rw [ef] <;> rfl) (by rw [ef] <;> rfl) nb0 d_Log_runsShift_134
