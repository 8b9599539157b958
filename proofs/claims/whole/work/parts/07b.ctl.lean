/-! MappedProcessor$Control.keepFields(LMappedProcessor$Instruction;)V -/
theorem d_Ctl_keepFields_0 : decode b_Ctl_keepFields 0 = .ok (.iconst 0, 1) := by decide +kernel
theorem d_Ctl_keepFields_1 : decode b_Ctl_keepFields 1 = .ok (.istore_n 2, 1) := by decide +kernel
theorem d_Ctl_keepFields_2 : decode b_Ctl_keepFields 2 = .ok (.iconst 0, 1) := by decide +kernel
theorem d_Ctl_keepFields_3 : decode b_Ctl_keepFields 3 = .ok (.istore_n 3, 1) := by decide +kernel
theorem d_Ctl_keepFields_4 : decode b_Ctl_keepFields 4 = .ok (.iload_n 3, 1) := by decide +kernel
theorem d_Ctl_keepFields_5 : decode b_Ctl_keepFields 5 = .ok (.bipush 8, 2) := by decide +kernel
theorem d_Ctl_keepFields_7 : decode b_Ctl_keepFields 7 = .ok (.if_icmp .ge 34, 3) := by decide +kernel
theorem d_Ctl_keepFields_10 : decode b_Ctl_keepFields 10 = .ok (.aload_n 1, 1) := by decide +kernel
theorem d_Ctl_keepFields_11 : decode b_Ctl_keepFields 11 = .ok (.iconst 1, 1) := by decide +kernel
theorem d_Ctl_keepFields_12 : decode b_Ctl_keepFields 12 = .ok (.bipush 19, 2) := by decide +kernel
theorem d_Ctl_keepFields_14 : decode b_Ctl_keepFields 14 = .ok (.iload_n 3, 1) := by decide +kernel
theorem d_Ctl_keepFields_15 : decode b_Ctl_keepFields 15 = .ok (.isub, 1) := by decide +kernel
theorem d_Ctl_keepFields_16 : decode b_Ctl_keepFields 16 = .ok (.ishl, 1) := by decide +kernel
theorem d_Ctl_keepFields_17 : decode b_Ctl_keepFields 17 = .ok (.invokevirtual 49, 3) := by decide +kernel
theorem d_Ctl_keepFields_20 : decode b_Ctl_keepFields 20 = .ok (.ifCond .eq 15, 3) := by decide +kernel
theorem d_Ctl_keepFields_23 : decode b_Ctl_keepFields 23 = .ok (.iload_n 2, 1) := by decide +kernel
theorem d_Ctl_keepFields_24 : decode b_Ctl_keepFields 24 = .ok (.bipush 15, 2) := by decide +kernel
theorem d_Ctl_keepFields_26 : decode b_Ctl_keepFields 26 = .ok (.bipush 28, 2) := by decide +kernel
theorem d_Ctl_keepFields_28 : decode b_Ctl_keepFields 28 = .ok (.iconst 4, 1) := by decide +kernel
theorem d_Ctl_keepFields_29 : decode b_Ctl_keepFields 29 = .ok (.iload_n 3, 1) := by decide +kernel
theorem d_Ctl_keepFields_30 : decode b_Ctl_keepFields 30 = .ok (.imul, 1) := by decide +kernel
theorem d_Ctl_keepFields_31 : decode b_Ctl_keepFields 31 = .ok (.isub, 1) := by decide +kernel
theorem d_Ctl_keepFields_32 : decode b_Ctl_keepFields 32 = .ok (.ishl, 1) := by decide +kernel
theorem d_Ctl_keepFields_33 : decode b_Ctl_keepFields 33 = .ok (.ior, 1) := by decide +kernel
theorem d_Ctl_keepFields_34 : decode b_Ctl_keepFields 34 = .ok (.istore_n 2, 1) := by decide +kernel
theorem d_Ctl_keepFields_35 : decode b_Ctl_keepFields 35 = .ok (.iinc 3 1, 3) := by decide +kernel
theorem d_Ctl_keepFields_38 : decode b_Ctl_keepFields 38 = .ok (.goto (-34), 3) := by decide +kernel
theorem d_Ctl_keepFields_41 : decode b_Ctl_keepFields 41 = .ok (.aload_n 0, 1) := by decide +kernel
theorem d_Ctl_keepFields_42 : decode b_Ctl_keepFields 42 = .ok (.getfield 9, 3) := by decide +kernel
theorem d_Ctl_keepFields_45 : decode b_Ctl_keepFields 45 = .ok (.iconst 2, 1) := by decide +kernel
theorem d_Ctl_keepFields_46 : decode b_Ctl_keepFields 46 = .ok (.aload_n 0, 1) := by decide +kernel
theorem d_Ctl_keepFields_47 : decode b_Ctl_keepFields 47 = .ok (.getfield 9, 3) := by decide +kernel
theorem d_Ctl_keepFields_50 : decode b_Ctl_keepFields 50 = .ok (.iconst 2, 1) := by decide +kernel
theorem d_Ctl_keepFields_51 : decode b_Ctl_keepFields 51 = .ok (.invokevirtual 24, 3) := by decide +kernel
theorem d_Ctl_keepFields_54 : decode b_Ctl_keepFields 54 = .ok (.iload_n 2, 1) := by decide +kernel
theorem d_Ctl_keepFields_55 : decode b_Ctl_keepFields 55 = .ok (.iconst (-1), 1) := by decide +kernel
theorem d_Ctl_keepFields_56 : decode b_Ctl_keepFields 56 = .ok (.ixor, 1) := by decide +kernel
theorem d_Ctl_keepFields_57 : decode b_Ctl_keepFields 57 = .ok (.iand, 1) := by decide +kernel
theorem d_Ctl_keepFields_58 : decode b_Ctl_keepFields 58 = .ok (.aload_n 0, 1) := by decide +kernel
theorem d_Ctl_keepFields_59 : decode b_Ctl_keepFields 59 = .ok (.getfield 9, 3) := by decide +kernel
theorem d_Ctl_keepFields_62 : decode b_Ctl_keepFields 62 = .ok (.aload_n 1, 1) := by decide +kernel
theorem d_Ctl_keepFields_63 : decode b_Ctl_keepFields 63 = .ok (.getfield 21, 3) := by decide +kernel
theorem d_Ctl_keepFields_66 : decode b_Ctl_keepFields 66 = .ok (.invokevirtual 53, 3) := by decide +kernel
theorem d_Ctl_keepFields_69 : decode b_Ctl_keepFields 69 = .ok (.iload_n 2, 1) := by decide +kernel
theorem d_Ctl_keepFields_70 : decode b_Ctl_keepFields 70 = .ok (.iand, 1) := by decide +kernel
theorem d_Ctl_keepFields_71 : decode b_Ctl_keepFields 71 = .ok (.ior, 1) := by decide +kernel
theorem d_Ctl_keepFields_72 : decode b_Ctl_keepFields 72 = .ok (.invokevirtual 56, 3) := by decide +kernel
theorem d_Ctl_keepFields_75 : decode b_Ctl_keepFields 75 = .ok (.return_, 1) := by decide +kernel
def f_Ctl_keepFields_lp (g : Nat → Int32) (sp : Nat → Int32) (iw : Int32) (id : Int32) : Nat → Nat → Int32 → (Nat → Int32)
  | 0, j, x2 => (f_Sta_keep (2 : Int32) (((f_Sta_read (2 : Int32) sp) &&& (x2 ^^^ (-1 : Int32))) ||| ((f_Sta_register id g) &&& x2)) sp)
  | n + 1, j, x2 => f_Ctl_keepFields_lp g sp iw id n (j + 1) (if (f_Ins_has (shl (1 : Int32) ((19 : Int32) - (nI j))) iw) = (0 : Int32) then x2 else (x2 ||| (shl (15 : Int32) ((28 : Int32) - ((4 : Int32) * (nI j))))))
def f_Ctl_keepFields (g : Nat → Int32) (sp : Nat → Int32) (iw : Int32) (id : Int32) : (Nat → Int32) :=
  f_Ctl_keepFields_lp g sp iw id 8 0 (0 : Int32)
set_option maxHeartbeats 4000000 in
set_option maxRecDepth 100000 in
theorem c_Ctl_keepFields (l : Launch) (D : va_G) (aS aG aX aI aK : Nat) (cG cX : ClassId) (g : Nat → Int32) (sp : Nat → Int32) (nx : Int32) (lt : Int32) (sm : Int32) (ex : Int32) (iw : Int32) (io : Int32) (id : Int32) (ia : Int32) (ib : Int32) (ii : Int32) (is : Int32) (iu : Int32) (_q0 : Nat) : kMv l y_Ctl_keepFields b_Ctl_keepFields 4 none 1 22 D kCl [(cG, .int), (cX, .int)] [.ref aK, .ref aI] [(aS, .inr (9, [.ref aG, .ref aX, .int nx, .int lt, .int sm, .int ex])), (aG, .inl (cG, 32, .inl g)), (aX, .inl (cX, 64, .inl sp)), (aI, .inr (5, [.int iw, .int io, .int id, .int ia, .int ib, .int ii, .int is, .int iu])), (aK, .inr (4, [.ref aS]))] [(aS, .inr (9, [.ref aG, .ref aX, .int nx, .int lt, .int sm, .int ex])), (aG, .inl (cG, 32, .inl g)), (aX, .inl (cX, 64, .inl (f_Ctl_keepFields g sp iw id))), (aI, .inr (5, [.int iw, .int io, .int id, .int ia, .int ib, .int ii, .int is, .int iu])), (aK, .inr (4, [.ref aS]))] := by
  refine k_entry (Qc := fun A => kQv D kCl [(cG, .int), (cX, .int)] [(aS, .inr (9, [.ref aG, .ref aX, .int nx, .int lt, .int sm, .int ex])), (aG, .inl (cG, 32, .inl g)), (aX, .inl (cX, 64, .inl (f_Ctl_keepFields g sp iw id))), (aI, .inr (5, [.int iw, .int io, .int id, .int ia, .int ib, .int ii, .int is, .int iu])), (aK, .inr (4, [.ref aS]))] A) (lv := [(0, .ref aK), (1, .ref aI)]) (by decide) (Nat.le_of_ble_eq_true rfl) rfl ?_
  intro p e s m below meth c A ls hx hb hr hml hB hown hlocks hin hA hK hN hP hD hS hl
  have hown : s.vm.findClass "MappedProcessor$Control" = some m.cls := hown
  refine lv_iconst (v := (0 : Int32)) hx hb d_Ctl_keepFields_0 (by decide) ?_
  refine lv_istore_n (lv' := [(2, .int (0 : Int32)), (0, .ref aK), (1, .ref aI)]) hx hb d_Ctl_keepFields_1 rfl hl (by decide) rfl (fun ls hl => ?_)
  refine lv_iconst (v := (0 : Int32)) hx hb d_Ctl_keepFields_2 (by decide) ?_
  refine lv_istore_n (lv' := [(3, .int (0 : Int32)), (2, .int (0 : Int32)), (0, .ref aK), (1, .ref aI)]) hx hb d_Ctl_keepFields_3 rfl hl (by decide) rfl (fun ls hl => ?_)
  have ef : f_Ctl_keepFields g sp iw id = f_Ctl_keepFields_lp g sp iw id 8 0 (0 : Int32) := rfl
  have lp : ∀ (n j : Nat) (x2 : Int32) (H : Heap) (locs : List Loc) (ls : Array Slot), j + n = 8 → f_Ctl_keepFields g sp iw id = f_Ctl_keepFields_lp g sp iw id n j x2 → va_P D kCl [(aS, .inr (9, [.ref aG, .ref aX, .int nx, .int lt, .int sm, .int ex])), (aG, .inl (cG, 32, .inl g)), (aX, .inl (cX, 64, .inl sp)), (aI, .inr (5, [.int iw, .int io, .int id, .int ia, .int ib, .int ii, .int is, .int iu])), (aK, .inr (4, [.ref aS]))] H → va_D A [(aS, .inr (9, [.ref aG, .ref aX, .int nx, .int lt, .int sm, .int ex])), (aG, .inl (cG, 32, .inl g)), (aX, .inl (cX, 64, .inl sp)), (aI, .inr (5, [.int iw, .int io, .int id, .int ia, .int ib, .int ii, .int is, .int iu])), (aK, .inr (4, [.ref aS]))] → va_S A s.heap H locs → lv_has ls 4 [(3, .int (nI j)), (2, .int x2), (0, .ref aK), (1, .ref aI)] → W p l e { frames := 1, cells := 0, slots := 0, locals := 22 } s m (([.ref aK, .ref aI] : List Value).toArray) below meth c H locs 0 0 (MQ below (kQv D kCl [(cG, .int), (cX, .int)] [(aS, .inr (9, [.ref aG, .ref aX, .int nx, .int lt, .int sm, .int ex])), (aG, .inl (cG, 32, .inl g)), (aX, .inl (cX, 64, .inl (f_Ctl_keepFields g sp iw id))), (aI, .inr (5, [.int iw, .int io, .int id, .int ia, .int ib, .int ii, .int is, .int iu])), (aK, .inr (4, [.ref aS]))] A) (([.ref aK, .ref aI] : List Value).toArray) s 0 0 A) (F0 m 4 ls []) := by
    intro n
    induction n with
    | zero =>
      intro j x2 H locs ls hj ef0 hP hD hS hl
      refine lv_iload_n hx hb d_Ctl_keepFields_4 rfl (lv_at hl 0 rfl) ?_
      refine lv_bipush (v := (8 : Int32)) hx hb d_Ctl_keepFields_5 (by decide) ?_
      refine lv_icmp_ge (tgt := 41) hx hb d_Ctl_keepFields_7 (by decide) (fun (h1 : (8 : Int32) ≤ (nI j)) => ?_) (fun (h1 : ¬ (8 : Int32) ≤ (nI j)) => ?_)
      rotate_left
      · exact absurd (lp_z (B := 8) (by decide) hj) h1
      refine lv_aload_n hx hb d_Ctl_keepFields_41 rfl (lv_at hl 2 rfl) ?_
      refine va_get (D := D) (ci := 4) (v := .ref aS) (C := "MappedProcessor$Control") (T := T_Ctl) (N := 1) hx hb hB iw_Ctl hown hK hP 4 rfl rfl 0 (by decide) (hB _ mw_189) (fun _ h9 => h9) rfl d_Ctl_keepFields_42 ?_
      refine lv_iconst (v := (2 : Int32)) hx hb d_Ctl_keepFields_45 (by decide) ?_
      refine lv_aload_n hx hb d_Ctl_keepFields_46 rfl (lv_at hl 2 rfl) ?_
      refine va_get (D := D) (ci := 4) (v := .ref aS) (C := "MappedProcessor$Control") (T := T_Ctl) (N := 1) hx hb hB iw_Ctl hown hK hP 4 rfl rfl 0 (by decide) (hB _ mw_189) (fun _ h9 => h9) rfl d_Ctl_keepFields_47 ?_
      refine lv_iconst (v := (2 : Int32)) hx hb d_Ctl_keepFields_50 (by decide) ?_
      refine k_cVi (As := [.int (2 : Int32)]) (rest := [.int (2 : Int32), .ref aS]) (wr := [(aI, .inr (5, [.int iw, .int io, .int id, .int ia, .int ib, .int ii, .int is, .int iu])), (aK, .inr (4, [.ref aS]))]) (wj := [(aS, .inr (9, [.ref aG, .ref aX, .int nx, .int lt, .int sm, .int ex])), (aG, .inl (cG, 32, .inl g)), (aX, .inl (cX, 64, .inl sp)), (aI, .inr (5, [.int iw, .int io, .int id, .int ia, .int ib, .int ii, .int is, .int iu])), (aK, .inr (4, [.ref aS]))]) ⟨hx, hb, hml, hown, hB⟩ (c_Sta_read l D aS aG aX cG cX g sp nx lt sm ex (2 : Int32)) yl_Sta_read mw_534 hK hN hP hD hS hA [0, 1] [0, 1, 2] [3, 4] [2, 3, 4, 0, 1] rfl rfl rfl rfl (by decide +kernel) 0 rfl rfl rfl rfl hl.1 rfl (Nat.le_of_ble_eq_true rfl) ⟨Nat.le_of_ble_eq_true rfl, Nat.le_of_ble_eq_true rfl⟩ d_Ctl_keepFields_51 ⟨Nat.le_of_ble_eq_true rfl, Nat.le_of_ble_eq_true rfl⟩ (fun H locs hP hD hS => ?_)
      refine lv_iload_n hx hb d_Ctl_keepFields_54 rfl (lv_at hl 1 rfl) ?_
      refine lv_iconst (v := (-1 : Int32)) hx hb d_Ctl_keepFields_55 (by decide) ?_
      refine lv_ixor hx hb d_Ctl_keepFields_56 ?_
      refine lv_iand hx hb d_Ctl_keepFields_57 ?_
      refine lv_aload_n hx hb d_Ctl_keepFields_58 rfl (lv_at hl 2 rfl) ?_
      refine va_get (D := D) (ci := 4) (v := .ref aS) (C := "MappedProcessor$Control") (T := T_Ctl) (N := 1) hx hb hB iw_Ctl hown hK hP 4 rfl rfl 0 (by decide) (hB _ mw_189) (fun _ h9 => h9) rfl d_Ctl_keepFields_59 ?_
      refine lv_aload_n hx hb d_Ctl_keepFields_62 rfl (lv_at hl 3 rfl) ?_
      refine va_get (D := D) (ci := 5) (v := .int id) (C := "MappedProcessor$Instruction") (T := T_Ins) (N := 8) hx hb hB iw_Ins hown hK hP 3 rfl rfl 2 (by decide) (hB _ mw_95) (fun _ h9 => h9) rfl d_Ctl_keepFields_63 ?_
      refine k_cVi (As := [.int id]) (rest := [.int ((f_Sta_read (2 : Int32) sp) &&& (x2 ^^^ (-1 : Int32))), .int (2 : Int32), .ref aS]) (wr := [(aI, .inr (5, [.int iw, .int io, .int id, .int ia, .int ib, .int ii, .int is, .int iu])), (aK, .inr (4, [.ref aS]))]) (wj := [(aS, .inr (9, [.ref aG, .ref aX, .int nx, .int lt, .int sm, .int ex])), (aG, .inl (cG, 32, .inl g)), (aX, .inl (cX, 64, .inl sp)), (aI, .inr (5, [.int iw, .int io, .int id, .int ia, .int ib, .int ii, .int is, .int iu])), (aK, .inr (4, [.ref aS]))]) ⟨hx, hb, hml, hown, hB⟩ (c_Sta_register l D aS aG aX cG cX g sp nx lt sm ex id) yl_Sta_register mw_541 hK hN hP hD hS hA [0, 1] [0, 1, 2] [3, 4] [2, 3, 4, 0, 1] rfl rfl rfl rfl (by decide +kernel) 0 rfl rfl rfl rfl hl.1 rfl (Nat.le_of_ble_eq_true rfl) ⟨Nat.le_of_ble_eq_true rfl, Nat.le_of_ble_eq_true rfl⟩ d_Ctl_keepFields_66 ⟨Nat.le_of_ble_eq_true rfl, Nat.le_of_ble_eq_true rfl⟩ (fun H locs hP hD hS => ?_)
      refine lv_iload_n hx hb d_Ctl_keepFields_69 rfl (lv_at hl 1 rfl) ?_
      refine lv_iand hx hb d_Ctl_keepFields_70 ?_
      refine lv_ior hx hb d_Ctl_keepFields_71 ?_
      refine k_cVv (As := [.int (2 : Int32), .int (((f_Sta_read (2 : Int32) sp) &&& (x2 ^^^ (-1 : Int32))) ||| ((f_Sta_register id g) &&& x2))]) (rest := []) (wr := [(aI, .inr (5, [.int iw, .int io, .int id, .int ia, .int ib, .int ii, .int is, .int iu])), (aK, .inr (4, [.ref aS]))]) (wj := [(aS, .inr (9, [.ref aG, .ref aX, .int nx, .int lt, .int sm, .int ex])), (aG, .inl (cG, 32, .inl g)), (aX, .inl (cX, 64, .inl (f_Sta_keep (2 : Int32) (((f_Sta_read (2 : Int32) sp) &&& (x2 ^^^ (-1 : Int32))) ||| ((f_Sta_register id g) &&& x2)) sp))), (aI, .inr (5, [.int iw, .int io, .int id, .int ia, .int ib, .int ii, .int is, .int iu])), (aK, .inr (4, [.ref aS]))]) ⟨hx, hb, hml, hown, hB⟩ (c_Sta_keep l D aS aG aX cG cX g sp nx lt sm ex (2 : Int32) (((f_Sta_read (2 : Int32) sp) &&& (x2 ^^^ (-1 : Int32))) ||| ((f_Sta_register id g) &&& x2))) yl_Sta_keep mw_542 hK hN hP hD hS hA [0, 1] [0, 1, 2] [3, 4] [2, 3, 4, 0, 1] rfl rfl rfl rfl (by decide +kernel) 0 rfl rfl rfl rfl hl.1 rfl (Nat.le_of_ble_eq_true rfl) ⟨Nat.le_of_ble_eq_true rfl, Nat.le_of_ble_eq_true rfl⟩ d_Ctl_keepFields_72 ⟨Nat.le_of_ble_eq_true rfl, Nat.le_of_ble_eq_true rfl⟩ (fun H locs hP hD hS => ?_)
      have ef : f_Ctl_keepFields g sp iw id = (f_Sta_keep (2 : Int32) (((f_Sta_read (2 : Int32) sp) &&& (x2 ^^^ (-1 : Int32))) ||| ((f_Sta_register id g) &&& x2)) sp) := ef0.trans (by rw [f_Ctl_keepFields_lp]; try dsimp only)
      exact k_vret hx hb hr hlocks hK hP hD hS [0, 1, 2, 3, 4] rfl (by rw [ef] <;> rfl) d_Ctl_keepFields_75
    | succ n ih =>
      intro j x2 H locs ls hj ef0 hP hD hS hl
      refine lv_iload_n hx hb d_Ctl_keepFields_4 rfl (lv_at hl 0 rfl) ?_
      refine lv_bipush (v := (8 : Int32)) hx hb d_Ctl_keepFields_5 (by decide) ?_
      refine lv_icmp_ge (tgt := 41) hx hb d_Ctl_keepFields_7 (by decide) (fun (h2 : (8 : Int32) ≤ (nI j)) => ?_) (fun (h2 : ¬ (8 : Int32) ≤ (nI j)) => ?_)
      · exact absurd h2 (lp_s (B := 8) (by decide) hj)
      refine lv_aload_n hx hb d_Ctl_keepFields_10 rfl (lv_at hl 3 rfl) ?_
      refine lv_iconst (v := (1 : Int32)) hx hb d_Ctl_keepFields_11 (by decide) ?_
      refine lv_bipush (v := (19 : Int32)) hx hb d_Ctl_keepFields_12 (by decide) ?_
      refine lv_iload_n hx hb d_Ctl_keepFields_14 rfl (lv_at hl 0 rfl) ?_
      refine lv_isub hx hb d_Ctl_keepFields_15 ?_
      refine lv_ishl hx hb d_Ctl_keepFields_16 ?_
      refine k_cVi (As := [.int (shl (1 : Int32) ((19 : Int32) - (nI j)))]) (rest := []) (wr := [(aS, .inr (9, [.ref aG, .ref aX, .int nx, .int lt, .int sm, .int ex])), (aG, .inl (cG, 32, .inl g)), (aX, .inl (cX, 64, .inl sp)), (aK, .inr (4, [.ref aS]))]) (wj := [(aS, .inr (9, [.ref aG, .ref aX, .int nx, .int lt, .int sm, .int ex])), (aG, .inl (cG, 32, .inl g)), (aX, .inl (cX, 64, .inl sp)), (aI, .inr (5, [.int iw, .int io, .int id, .int ia, .int ib, .int ii, .int is, .int iu])), (aK, .inr (4, [.ref aS]))]) ⟨hx, hb, hml, hown, hB⟩ (c_Ins_has l D aI iw io id ia ib ii is iu (shl (1 : Int32) ((19 : Int32) - (nI j)))) yl_Ins_has mw_540 hK hN hP hD hS hA [] [3] [0, 1, 2, 4] [0, 1, 2, 4, 3] rfl rfl rfl rfl (by decide +kernel) 0 rfl rfl rfl rfl hl.1 rfl (Nat.le_of_ble_eq_true rfl) ⟨Nat.le_of_ble_eq_true rfl, Nat.le_of_ble_eq_true rfl⟩ d_Ctl_keepFields_17 ⟨Nat.le_of_ble_eq_true rfl, Nat.le_of_ble_eq_true rfl⟩ (fun H locs hP hD hS => ?_)
      refine k_joinL2 (c0 := (f_Ins_has (shl (1 : Int32) ((19 : Int32) - (nI j))) iw) = (0 : Int32)) (x1 := x2) (x2 := (x2 ||| (shl (15 : Int32) ((28 : Int32) - ((4 : Int32) * (nI j)))))) (nL := 4) (rest := []) 35 2 [(3, .int (nI j)), (0, .ref aK), (1, .ref aI)] (fun ls hl => ?_) (fun k4 k5 => ?_)
      rotate_left
      · refine lv_if_eq (tgt := 35) hx hb d_Ctl_keepFields_20 (by decide) (fun (h3 : (f_Ins_has (shl (1 : Int32) ((19 : Int32) - (nI j))) iw) = (0 : Int32)) => ?_) (fun (h3 : ¬ (f_Ins_has (shl (1 : Int32) ((19 : Int32) - (nI j))) iw) = (0 : Int32)) => ?_)
        · exact k4 h3 ls (lv_sub hl [1, 0, 2, 3] rfl)
        · refine lv_iload_n hx hb d_Ctl_keepFields_23 rfl (lv_at hl 1 rfl) ?_
          refine lv_bipush (v := (15 : Int32)) hx hb d_Ctl_keepFields_24 (by decide) ?_
          refine lv_bipush (v := (28 : Int32)) hx hb d_Ctl_keepFields_26 (by decide) ?_
          refine lv_iconst (v := (4 : Int32)) hx hb d_Ctl_keepFields_28 (by decide) ?_
          refine lv_iload_n hx hb d_Ctl_keepFields_29 rfl (lv_at hl 0 rfl) ?_
          refine lv_imul hx hb d_Ctl_keepFields_30 ?_
          refine lv_isub hx hb d_Ctl_keepFields_31 ?_
          refine lv_ishl hx hb d_Ctl_keepFields_32 ?_
          refine lv_ior hx hb d_Ctl_keepFields_33 ?_
          refine lv_istore_n (lv' := [(2, .int (x2 ||| (shl (15 : Int32) ((28 : Int32) - ((4 : Int32) * (nI j)))))), (3, .int (nI j)), (0, .ref aK), (1, .ref aI)]) hx hb d_Ctl_keepFields_34 rfl hl (by decide) rfl (fun ls hl => ?_)
          exact k5 h3 ls (lv_sub hl [0, 1, 2, 3] rfl)
      refine lv_iinc (v := (nI (j + 1))) (lv' := [(3, .int (nI (j + 1))), (2, .int (if (f_Ins_has (shl (1 : Int32) ((19 : Int32) - (nI j))) iw) = (0 : Int32) then x2 else (x2 ||| (shl (15 : Int32) ((28 : Int32) - ((4 : Int32) * (nI j))))))), (0, .ref aK), (1, .ref aI)]) hx hb d_Ctl_keepFields_35 hl (k := 1) rfl (nI_1 j) (by decide) rfl (fun ls hl => ?_)
      refine lv_goto (tgt := 4) hx hb d_Ctl_keepFields_38 (by decide) ?_
      have ef : f_Ctl_keepFields g sp iw id = f_Ctl_keepFields_lp g sp iw id n (j + 1) (if (f_Ins_has (shl (1 : Int32) ((19 : Int32) - (nI j))) iw) = (0 : Int32) then x2 else (x2 ||| (shl (15 : Int32) ((28 : Int32) - ((4 : Int32) * (nI j)))))) := ef0.trans (by rw [f_Ctl_keepFields_lp]; try dsimp only)
      exact ih (j + 1) (if (f_Ins_has (shl (1 : Int32) ((19 : Int32) - (nI j))) iw) = (0 : Int32) then x2 else (x2 ||| (shl (15 : Int32) ((28 : Int32) - ((4 : Int32) * (nI j)))))) _ _ ls (by omega) ef hP hD hS (lv_sub hl [0, 1, 2, 3] rfl)
  exact lp 8 0 (0 : Int32) _ _ ls (by omega) ef hP hD hS (lv_sub hl [0, 1, 2, 3] rfl)
/-! MappedProcessor$Control.specialOf(I)I -/
theorem d_Ctl_specialOf_0 : decode b_Ctl_specialOf 0 = .ok (.iload_n 0, 1) := by decide +kernel
theorem d_Ctl_specialOf_1 : decode b_Ctl_specialOf 1 = .ok (.tableswitch 144 1 27 #[123, 144, 144, 144, 144, 144, 144, 125, 127, 144, 144, 144, 144, 144, 144, 144, 144, 129, 132, 144, 144, 144, 144, 144, 135, 138, 141], 123) := by decide +kernel
theorem d_Ctl_specialOf_124 : decode b_Ctl_specialOf 124 = .ok (.iconst 3, 1) := by decide +kernel
theorem d_Ctl_specialOf_125 : decode b_Ctl_specialOf 125 = .ok (.ireturn, 1) := by decide +kernel
theorem d_Ctl_specialOf_126 : decode b_Ctl_specialOf 126 = .ok (.iconst 4, 1) := by decide +kernel
theorem d_Ctl_specialOf_127 : decode b_Ctl_specialOf 127 = .ok (.ireturn, 1) := by decide +kernel
theorem d_Ctl_specialOf_128 : decode b_Ctl_specialOf 128 = .ok (.iconst 5, 1) := by decide +kernel
theorem d_Ctl_specialOf_129 : decode b_Ctl_specialOf 129 = .ok (.ireturn, 1) := by decide +kernel
theorem d_Ctl_specialOf_130 : decode b_Ctl_specialOf 130 = .ok (.bipush 8, 2) := by decide +kernel
theorem d_Ctl_specialOf_132 : decode b_Ctl_specialOf 132 = .ok (.ireturn, 1) := by decide +kernel
theorem d_Ctl_specialOf_133 : decode b_Ctl_specialOf 133 = .ok (.bipush 9, 2) := by decide +kernel
theorem d_Ctl_specialOf_135 : decode b_Ctl_specialOf 135 = .ok (.ireturn, 1) := by decide +kernel
theorem d_Ctl_specialOf_136 : decode b_Ctl_specialOf 136 = .ok (.bipush 10, 2) := by decide +kernel
theorem d_Ctl_specialOf_138 : decode b_Ctl_specialOf 138 = .ok (.ireturn, 1) := by decide +kernel
theorem d_Ctl_specialOf_139 : decode b_Ctl_specialOf 139 = .ok (.bipush 6, 2) := by decide +kernel
theorem d_Ctl_specialOf_141 : decode b_Ctl_specialOf 141 = .ok (.ireturn, 1) := by decide +kernel
theorem d_Ctl_specialOf_142 : decode b_Ctl_specialOf 142 = .ok (.bipush 7, 2) := by decide +kernel
theorem d_Ctl_specialOf_144 : decode b_Ctl_specialOf 144 = .ok (.ireturn, 1) := by decide +kernel
theorem d_Ctl_specialOf_145 : decode b_Ctl_specialOf 145 = .ok (.iload_n 0, 1) := by decide +kernel
theorem d_Ctl_specialOf_146 : decode b_Ctl_specialOf 146 = .ok (.sipush 528, 3) := by decide +kernel
theorem d_Ctl_specialOf_149 : decode b_Ctl_specialOf 149 = .ok (.if_icmp .lt 21, 3) := by decide +kernel
theorem d_Ctl_specialOf_152 : decode b_Ctl_specialOf 152 = .ok (.iload_n 0, 1) := by decide +kernel
theorem d_Ctl_specialOf_153 : decode b_Ctl_specialOf 153 = .ok (.sipush 543, 3) := by decide +kernel
theorem d_Ctl_specialOf_156 : decode b_Ctl_specialOf 156 = .ok (.if_icmp .gt 14, 3) := by decide +kernel
theorem d_Ctl_specialOf_159 : decode b_Ctl_specialOf 159 = .ok (.bipush 16, 2) := by decide +kernel
theorem d_Ctl_specialOf_161 : decode b_Ctl_specialOf 161 = .ok (.iload_n 0, 1) := by decide +kernel
theorem d_Ctl_specialOf_162 : decode b_Ctl_specialOf 162 = .ok (.iadd, 1) := by decide +kernel
theorem d_Ctl_specialOf_163 : decode b_Ctl_specialOf 163 = .ok (.sipush 528, 3) := by decide +kernel
theorem d_Ctl_specialOf_166 : decode b_Ctl_specialOf 166 = .ok (.isub, 1) := by decide +kernel
theorem d_Ctl_specialOf_167 : decode b_Ctl_specialOf 167 = .ok (.goto 4, 3) := by decide +kernel
theorem d_Ctl_specialOf_170 : decode b_Ctl_specialOf 170 = .ok (.iconst (-1), 1) := by decide +kernel
theorem d_Ctl_specialOf_171 : decode b_Ctl_specialOf 171 = .ok (.ireturn, 1) := by decide +kernel
def f_Ctl_specialOf (p0 : Int32) : Int32 :=
  if p0 = (1 : Int32) then
    (3 : Int32)
  else
    if p0 = (8 : Int32) then
      (4 : Int32)
    else
      if p0 = (9 : Int32) then
        (5 : Int32)
      else
        if p0 = (18 : Int32) then
          (8 : Int32)
        else
          if p0 = (19 : Int32) then
            (9 : Int32)
          else
            if p0 = (25 : Int32) then
              (10 : Int32)
            else
              if p0 = (26 : Int32) then
                (6 : Int32)
              else
                if p0 = (27 : Int32) then
                  (7 : Int32)
                else
                  (if p0 < (528 : Int32) then (-1 : Int32) else (if (543 : Int32) < p0 then (-1 : Int32) else (((16 : Int32) + p0) - (528 : Int32))))
set_option maxHeartbeats 4000000 in
set_option maxRecDepth 100000 in
theorem c_Ctl_specialOf (l : Launch) (D : va_G) (p0 : Int32) : kMi l y_Ctl_specialOf b_Ctl_specialOf 1 (some .int) 0 0 D kCl [] [.int p0] [] (f_Ctl_specialOf p0) [] := by
  refine k_entry (Qc := fun A => kQi D kCl [] (f_Ctl_specialOf p0) [] A) (lv := [(0, .int p0)]) (by decide) (Nat.le_of_ble_eq_true rfl) rfl ?_
  intro p e s m below meth c A ls hx hb hr hml hB hown hlocks hin hA hK hN hP hD hS hl
  have hown : s.vm.findClass "MappedProcessor$Control" = some m.cls := hown
  refine lv_iload_n hx hb d_Ctl_specialOf_0 rfl (lv_at hl 0 rfl) ?_
  by_cases h1 : p0 = (1 : Int32)
  · refine k_table (off := 123) (tgt := 124) hx hb d_Ctl_specialOf_1 (by have hq9 := h1 <;> rw [hq9] <;> rfl) (by decide) ?_
    refine lv_iconst (v := (3 : Int32)) hx hb d_Ctl_specialOf_124 (by decide) ?_
    have ef : f_Ctl_specialOf p0 = (3 : Int32) := by unfold f_Ctl_specialOf; rw [if_pos h1]
    exact k_iret hx hb hr hlocks hK hP hD hS [] rfl rfl (by rw [ef] <;> rfl) d_Ctl_specialOf_125
  · by_cases h2 : p0 = (8 : Int32)
    · refine k_table (off := 125) (tgt := 126) hx hb d_Ctl_specialOf_1 (by have hq9 := h2 <;> rw [hq9] <;> rfl) (by decide) ?_
      refine lv_iconst (v := (4 : Int32)) hx hb d_Ctl_specialOf_126 (by decide) ?_
      have ef : f_Ctl_specialOf p0 = (4 : Int32) := by unfold f_Ctl_specialOf; rw [if_neg h1, if_pos h2]
      exact k_iret hx hb hr hlocks hK hP hD hS [] rfl rfl (by rw [ef] <;> rfl) d_Ctl_specialOf_127
    · by_cases h3 : p0 = (9 : Int32)
      · refine k_table (off := 127) (tgt := 128) hx hb d_Ctl_specialOf_1 (by have hq9 := h3 <;> rw [hq9] <;> rfl) (by decide) ?_
        refine lv_iconst (v := (5 : Int32)) hx hb d_Ctl_specialOf_128 (by decide) ?_
        have ef : f_Ctl_specialOf p0 = (5 : Int32) := by unfold f_Ctl_specialOf; rw [if_neg h1, if_neg h2, if_pos h3]
        exact k_iret hx hb hr hlocks hK hP hD hS [] rfl rfl (by rw [ef] <;> rfl) d_Ctl_specialOf_129
      · by_cases h4 : p0 = (18 : Int32)
        · refine k_table (off := 129) (tgt := 130) hx hb d_Ctl_specialOf_1 (by have hq9 := h4 <;> rw [hq9] <;> rfl) (by decide) ?_
          refine lv_bipush (v := (8 : Int32)) hx hb d_Ctl_specialOf_130 (by decide) ?_
          have ef : f_Ctl_specialOf p0 = (8 : Int32) := by unfold f_Ctl_specialOf; rw [if_neg h1, if_neg h2, if_neg h3, if_pos h4]
          exact k_iret hx hb hr hlocks hK hP hD hS [] rfl rfl (by rw [ef] <;> rfl) d_Ctl_specialOf_132
        · by_cases h5 : p0 = (19 : Int32)
          · refine k_table (off := 132) (tgt := 133) hx hb d_Ctl_specialOf_1 (by have hq9 := h5 <;> rw [hq9] <;> rfl) (by decide) ?_
            refine lv_bipush (v := (9 : Int32)) hx hb d_Ctl_specialOf_133 (by decide) ?_
            have ef : f_Ctl_specialOf p0 = (9 : Int32) := by unfold f_Ctl_specialOf; rw [if_neg h1, if_neg h2, if_neg h3, if_neg h4, if_pos h5]
            exact k_iret hx hb hr hlocks hK hP hD hS [] rfl rfl (by rw [ef] <;> rfl) d_Ctl_specialOf_135
          · by_cases h6 : p0 = (25 : Int32)
            · refine k_table (off := 135) (tgt := 136) hx hb d_Ctl_specialOf_1 (by have hq9 := h6 <;> rw [hq9] <;> rfl) (by decide) ?_
              refine lv_bipush (v := (10 : Int32)) hx hb d_Ctl_specialOf_136 (by decide) ?_
              have ef : f_Ctl_specialOf p0 = (10 : Int32) := by unfold f_Ctl_specialOf; rw [if_neg h1, if_neg h2, if_neg h3, if_neg h4, if_neg h5, if_pos h6]
              exact k_iret hx hb hr hlocks hK hP hD hS [] rfl rfl (by rw [ef] <;> rfl) d_Ctl_specialOf_138
            · by_cases h7 : p0 = (26 : Int32)
              · refine k_table (off := 138) (tgt := 139) hx hb d_Ctl_specialOf_1 (by have hq9 := h7 <;> rw [hq9] <;> rfl) (by decide) ?_
                refine lv_bipush (v := (6 : Int32)) hx hb d_Ctl_specialOf_139 (by decide) ?_
                have ef : f_Ctl_specialOf p0 = (6 : Int32) := by unfold f_Ctl_specialOf; rw [if_neg h1, if_neg h2, if_neg h3, if_neg h4, if_neg h5, if_neg h6, if_pos h7]
                exact k_iret hx hb hr hlocks hK hP hD hS [] rfl rfl (by rw [ef] <;> rfl) d_Ctl_specialOf_141
              · by_cases h8 : p0 = (27 : Int32)
                · refine k_table (off := 141) (tgt := 142) hx hb d_Ctl_specialOf_1 (by have hq9 := h8 <;> rw [hq9] <;> rfl) (by decide) ?_
                  refine lv_bipush (v := (7 : Int32)) hx hb d_Ctl_specialOf_142 (by decide) ?_
                  have ef : f_Ctl_specialOf p0 = (7 : Int32) := by unfold f_Ctl_specialOf; rw [if_neg h1, if_neg h2, if_neg h3, if_neg h4, if_neg h5, if_neg h6, if_neg h7, if_pos h8]
                  exact k_iret hx hb hr hlocks hK hP hD hS [] rfl rfl (by rw [ef] <;> rfl) d_Ctl_specialOf_144
                · refine k_table (off := 144) (tgt := 145) hx hb d_Ctl_specialOf_1 (by
                      have ee0 := lv_neT (a := 1) h1 (by decide); have ee1 := lv_neT (a := 8) h2 (by decide); have ee2 := lv_neT (a := 9) h3 (by decide); have ee3 := lv_neT (a := 18) h4 (by decide); have ee4 := lv_neT (a := 19) h5 (by decide); have ee5 := lv_neT (a := 25) h6 (by decide); have ee6 := lv_neT (a := 26) h7 (by decide); have ee7 := lv_neT (a := 27) h8 (by decide)
                      by_cases hq9 : p0.toInt < 1 ∨ 27 < p0.toInt
                      · rw [if_pos hq9]
                      · rw [if_neg hq9]
                        have eg : p0.toInt = 2 ∨ p0.toInt = 3 ∨ p0.toInt = 4 ∨ p0.toInt = 5 ∨ p0.toInt = 6 ∨ p0.toInt = 7 ∨ p0.toInt = 10 ∨ p0.toInt = 11 ∨ p0.toInt = 12 ∨ p0.toInt = 13 ∨ p0.toInt = 14 ∨ p0.toInt = 15 ∨ p0.toInt = 16 ∨ p0.toInt = 17 ∨ p0.toInt = 20 ∨ p0.toInt = 21 ∨ p0.toInt = 22 ∨ p0.toInt = 23 ∨ p0.toInt = 24 := by omega
                        rcases eg with eg | eg | eg | eg | eg | eg | eg | eg | eg | eg | eg | eg | eg | eg | eg | eg | eg | eg | eg <;> rw [eg] <;> rfl) (by decide) ?_
                  refine lv_iload_n hx hb d_Ctl_specialOf_145 rfl (lv_at hl 0 rfl) ?_
                  refine lv_sipush (v := (528 : Int32)) hx hb d_Ctl_specialOf_146 (by decide) ?_
                  refine k_join2 (c0 := p0 < (528 : Int32)) (x1 := (-1 : Int32)) (x2 := (if (543 : Int32) < p0 then (-1 : Int32) else (((16 : Int32) + p0) - (528 : Int32)))) (rest := []) 171 ?_ (fun k10 k11 => ?_)
                  rotate_left
                  · refine lv_icmp_lt (tgt := 170) hx hb d_Ctl_specialOf_149 (by decide) (fun (h9 : p0 < (528 : Int32)) => ?_) (fun (h9 : ¬ p0 < (528 : Int32)) => ?_)
                    · refine lv_iconst (v := (-1 : Int32)) hx hb d_Ctl_specialOf_170 (by decide) ?_
                      exact k10 h9
                    · refine lv_iload_n hx hb d_Ctl_specialOf_152 rfl (lv_at hl 0 rfl) ?_
                      refine lv_sipush (v := (543 : Int32)) hx hb d_Ctl_specialOf_153 (by decide) ?_
                      refine k_join2 (c0 := (543 : Int32) < p0) (x1 := (-1 : Int32)) (x2 := (((16 : Int32) + p0) - (528 : Int32))) (rest := []) 171 ?_ (fun k13 k14 => ?_)
                      rotate_left
                      · refine lv_icmp_gt (tgt := 170) hx hb d_Ctl_specialOf_156 (by decide) (fun (h12 : (543 : Int32) < p0) => ?_) (fun (h12 : ¬ (543 : Int32) < p0) => ?_)
                        · refine lv_iconst (v := (-1 : Int32)) hx hb d_Ctl_specialOf_170 (by decide) ?_
                          exact k13 h12
                        · refine lv_bipush (v := (16 : Int32)) hx hb d_Ctl_specialOf_159 (by decide) ?_
                          refine lv_iload_n hx hb d_Ctl_specialOf_161 rfl (lv_at hl 0 rfl) ?_
                          refine lv_iadd hx hb d_Ctl_specialOf_162 ?_
                          refine lv_sipush (v := (528 : Int32)) hx hb d_Ctl_specialOf_163 (by decide) ?_
                          refine lv_isub hx hb d_Ctl_specialOf_166 ?_
                          refine lv_goto (tgt := 171) hx hb d_Ctl_specialOf_167 (by decide) ?_
                          exact k14 h12
                      exact k11 h9
                  have ef : f_Ctl_specialOf p0 = (if p0 < (528 : Int32) then (-1 : Int32) else (if (543 : Int32) < p0 then (-1 : Int32) else (((16 : Int32) + p0) - (528 : Int32)))) := by unfold f_Ctl_specialOf; rw [if_neg h1, if_neg h2, if_neg h3, if_neg h4, if_neg h5, if_neg h6, if_neg h7, if_neg h8]
                  exact k_iret hx hb hr hlocks hK hP hD hS [] rfl rfl (by rw [ef] <;> rfl) d_Ctl_specialOf_171
/-! MappedProcessor$Control.movesSpecial(LMappedProcessor$Instruction;)Z -/
theorem d_Ctl_movesSpecial_0 : decode b_Ctl_movesSpecial 0 = .ok (.aload_n 1, 1) := by decide +kernel
theorem d_Ctl_movesSpecial_1 : decode b_Ctl_movesSpecial 1 = .ok (.getfield 63, 3) := by decide +kernel
theorem d_Ctl_movesSpecial_4 : decode b_Ctl_movesSpecial 4 = .ok (.bipush 32, 2) := by decide +kernel
theorem d_Ctl_movesSpecial_6 : decode b_Ctl_movesSpecial 6 = .ok (.imul, 1) := by decide +kernel
theorem d_Ctl_movesSpecial_7 : decode b_Ctl_movesSpecial 7 = .ok (.aload_n 1, 1) := by decide +kernel
theorem d_Ctl_movesSpecial_8 : decode b_Ctl_movesSpecial 8 = .ok (.getfield 59, 3) := by decide +kernel
theorem d_Ctl_movesSpecial_11 : decode b_Ctl_movesSpecial 11 = .ok (.iadd, 1) := by decide +kernel
theorem d_Ctl_movesSpecial_12 : decode b_Ctl_movesSpecial 12 = .ok (.invokestatic 66, 3) := by decide +kernel
theorem d_Ctl_movesSpecial_15 : decode b_Ctl_movesSpecial 15 = .ok (.istore_n 2, 1) := by decide +kernel
theorem d_Ctl_movesSpecial_16 : decode b_Ctl_movesSpecial 16 = .ok (.iload_n 2, 1) := by decide +kernel
theorem d_Ctl_movesSpecial_17 : decode b_Ctl_movesSpecial 17 = .ok (.iconst (-1), 1) := by decide +kernel
theorem d_Ctl_movesSpecial_18 : decode b_Ctl_movesSpecial 18 = .ok (.if_icmp .ne 5, 3) := by decide +kernel
theorem d_Ctl_movesSpecial_21 : decode b_Ctl_movesSpecial 21 = .ok (.iconst 0, 1) := by decide +kernel
theorem d_Ctl_movesSpecial_22 : decode b_Ctl_movesSpecial 22 = .ok (.ireturn, 1) := by decide +kernel
theorem d_Ctl_movesSpecial_23 : decode b_Ctl_movesSpecial 23 = .ok (.iload_n 2, 1) := by decide +kernel
theorem d_Ctl_movesSpecial_24 : decode b_Ctl_movesSpecial 24 = .ok (.iconst 3, 1) := by decide +kernel
theorem d_Ctl_movesSpecial_25 : decode b_Ctl_movesSpecial 25 = .ok (.if_icmp .eq 13, 3) := by decide +kernel
theorem d_Ctl_movesSpecial_28 : decode b_Ctl_movesSpecial 28 = .ok (.iload_n 2, 1) := by decide +kernel
theorem d_Ctl_movesSpecial_29 : decode b_Ctl_movesSpecial 29 = .ok (.iconst 4, 1) := by decide +kernel
theorem d_Ctl_movesSpecial_30 : decode b_Ctl_movesSpecial 30 = .ok (.if_icmp .eq 8, 3) := by decide +kernel
theorem d_Ctl_movesSpecial_33 : decode b_Ctl_movesSpecial 33 = .ok (.iload_n 2, 1) := by decide +kernel
theorem d_Ctl_movesSpecial_34 : decode b_Ctl_movesSpecial 34 = .ok (.iconst 5, 1) := by decide +kernel
theorem d_Ctl_movesSpecial_35 : decode b_Ctl_movesSpecial 35 = .ok (.if_icmp .ne 7, 3) := by decide +kernel
theorem d_Ctl_movesSpecial_38 : decode b_Ctl_movesSpecial 38 = .ok (.iconst 1, 1) := by decide +kernel
theorem d_Ctl_movesSpecial_39 : decode b_Ctl_movesSpecial 39 = .ok (.goto 4, 3) := by decide +kernel
theorem d_Ctl_movesSpecial_42 : decode b_Ctl_movesSpecial 42 = .ok (.iconst 0, 1) := by decide +kernel
theorem d_Ctl_movesSpecial_43 : decode b_Ctl_movesSpecial 43 = .ok (.istore_n 3, 1) := by decide +kernel
theorem d_Ctl_movesSpecial_44 : decode b_Ctl_movesSpecial 44 = .ok (.iload_n 3, 1) := by decide +kernel
theorem d_Ctl_movesSpecial_45 : decode b_Ctl_movesSpecial 45 = .ok (.ifCond .ne 15, 3) := by decide +kernel
theorem d_Ctl_movesSpecial_48 : decode b_Ctl_movesSpecial 48 = .ok (.aload_n 0, 1) := by decide +kernel
theorem d_Ctl_movesSpecial_49 : decode b_Ctl_movesSpecial 49 = .ok (.getfield 9, 3) := by decide +kernel
theorem d_Ctl_movesSpecial_52 : decode b_Ctl_movesSpecial 52 = .ok (.invokevirtual 42, 3) := by decide +kernel
theorem d_Ctl_movesSpecial_55 : decode b_Ctl_movesSpecial 55 = .ok (.ifCond .eq 5, 3) := by decide +kernel
theorem d_Ctl_movesSpecial_58 : decode b_Ctl_movesSpecial 58 = .ok (.iconst 1, 1) := by decide +kernel
theorem d_Ctl_movesSpecial_59 : decode b_Ctl_movesSpecial 59 = .ok (.ireturn, 1) := by decide +kernel
theorem d_Ctl_movesSpecial_60 : decode b_Ctl_movesSpecial 60 = .ok (.aload_n 1, 1) := by decide +kernel
theorem d_Ctl_movesSpecial_61 : decode b_Ctl_movesSpecial 61 = .ok (.getfield 15, 3) := by decide +kernel
theorem d_Ctl_movesSpecial_64 : decode b_Ctl_movesSpecial 64 = .ok (.sipush 339, 3) := by decide +kernel
theorem d_Ctl_movesSpecial_67 : decode b_Ctl_movesSpecial 67 = .ok (.if_icmp .ne 25, 3) := by decide +kernel
theorem d_Ctl_movesSpecial_70 : decode b_Ctl_movesSpecial 70 = .ok (.aload_n 0, 1) := by decide +kernel
theorem d_Ctl_movesSpecial_71 : decode b_Ctl_movesSpecial 71 = .ok (.getfield 9, 3) := by decide +kernel
theorem d_Ctl_movesSpecial_74 : decode b_Ctl_movesSpecial 74 = .ok (.aload_n 1, 1) := by decide +kernel
theorem d_Ctl_movesSpecial_75 : decode b_Ctl_movesSpecial 75 = .ok (.getfield 21, 3) := by decide +kernel
theorem d_Ctl_movesSpecial_78 : decode b_Ctl_movesSpecial 78 = .ok (.aload_n 0, 1) := by decide +kernel
theorem d_Ctl_movesSpecial_79 : decode b_Ctl_movesSpecial 79 = .ok (.getfield 9, 3) := by decide +kernel
theorem d_Ctl_movesSpecial_82 : decode b_Ctl_movesSpecial 82 = .ok (.iload_n 2, 1) := by decide +kernel
theorem d_Ctl_movesSpecial_83 : decode b_Ctl_movesSpecial 83 = .ok (.invokevirtual 24, 3) := by decide +kernel
theorem d_Ctl_movesSpecial_86 : decode b_Ctl_movesSpecial 86 = .ok (.invokevirtual 30, 3) := by decide +kernel
theorem d_Ctl_movesSpecial_89 : decode b_Ctl_movesSpecial 89 = .ok (.goto 22, 3) := by decide +kernel
theorem d_Ctl_movesSpecial_92 : decode b_Ctl_movesSpecial 92 = .ok (.aload_n 0, 1) := by decide +kernel
theorem d_Ctl_movesSpecial_93 : decode b_Ctl_movesSpecial 93 = .ok (.getfield 9, 3) := by decide +kernel
theorem d_Ctl_movesSpecial_96 : decode b_Ctl_movesSpecial 96 = .ok (.iload_n 2, 1) := by decide +kernel
theorem d_Ctl_movesSpecial_97 : decode b_Ctl_movesSpecial 97 = .ok (.aload_n 0, 1) := by decide +kernel
theorem d_Ctl_movesSpecial_98 : decode b_Ctl_movesSpecial 98 = .ok (.getfield 9, 3) := by decide +kernel
theorem d_Ctl_movesSpecial_101 : decode b_Ctl_movesSpecial 101 = .ok (.aload_n 1, 1) := by decide +kernel
theorem d_Ctl_movesSpecial_102 : decode b_Ctl_movesSpecial 102 = .ok (.getfield 21, 3) := by decide +kernel
theorem d_Ctl_movesSpecial_105 : decode b_Ctl_movesSpecial 105 = .ok (.invokevirtual 53, 3) := by decide +kernel
theorem d_Ctl_movesSpecial_108 : decode b_Ctl_movesSpecial 108 = .ok (.invokevirtual 56, 3) := by decide +kernel
theorem d_Ctl_movesSpecial_111 : decode b_Ctl_movesSpecial 111 = .ok (.iconst 1, 1) := by decide +kernel
theorem d_Ctl_movesSpecial_112 : decode b_Ctl_movesSpecial 112 = .ok (.ireturn, 1) := by decide +kernel
def f_Ctl_movesSpecial (g : Nat → Int32) (sp : Nat → Int32) (nx : Int32) (lt : Int32) (ex : Int32) (id : Int32) (ia : Int32) (ib : Int32) (ii : Int32) : Int32 × (Nat → Int32) × (Nat → Int32) × Int32 × Int32 × Int32 :=
  if (f_Ctl_specialOf ((ib * (32 : Int32)) + ia)) = (-1 : Int32) then
    ((0 : Int32), g, sp, nx, lt, ex)
  else
    if (if (f_Ctl_specialOf ((ib * (32 : Int32)) + ia)) = (3 : Int32) then (1 : Int32) else (if (f_Ctl_specialOf ((ib * (32 : Int32)) + ia)) = (4 : Int32) then (1 : Int32) else (if (f_Ctl_specialOf ((ib * (32 : Int32)) + ia)) = (5 : Int32) then (1 : Int32) else (0 : Int32)))) = (0 : Int32) then
      let t22 := (f_Sta_refusesPrivileged sp nx lt ex)
      if t22.1 = (0 : Int32) then
        if ii = (339 : Int32) then
          ((1 : Int32), (f_Sta_keepRegister id (f_Sta_read (f_Ctl_specialOf ((ib * (32 : Int32)) + ia)) t22.2.1) g), t22.2.1, t22.2.2.1, t22.2.2.2.1, t22.2.2.2.2)
        else
          ((1 : Int32), g, (f_Sta_keep (f_Ctl_specialOf ((ib * (32 : Int32)) + ia)) (f_Sta_register id g) t22.2.1), t22.2.2.1, t22.2.2.2.1, t22.2.2.2.2)
      else
        ((1 : Int32), g, t22.2.1, t22.2.2.1, t22.2.2.2.1, t22.2.2.2.2)
    else
      if ii = (339 : Int32) then
        ((1 : Int32), (f_Sta_keepRegister id (f_Sta_read (f_Ctl_specialOf ((ib * (32 : Int32)) + ia)) sp) g), sp, nx, lt, ex)
      else
        ((1 : Int32), g, (f_Sta_keep (f_Ctl_specialOf ((ib * (32 : Int32)) + ia)) (f_Sta_register id g) sp), nx, lt, ex)
set_option maxHeartbeats 4000000 in
set_option maxRecDepth 100000 in
theorem ib_Ctl_movesSpecial (g : Nat → Int32) (sp : Nat → Int32) (nx : Int32) (lt : Int32) (ex : Int32) (id : Int32) (ia : Int32) (ib : Int32) (ii : Int32) : isB (f_Ctl_movesSpecial g sp nx lt ex id ia ib ii).1 := by
  unfold f_Ctl_movesSpecial
  try dsimp only
  repeat' (first | refine ib_ite ?_ ?_ | refine ib_ite0 ?_ ?_ | with_reducible exact ib0 | with_reducible exact ib1 | with_reducible exact ib_Sta_refusesPrivileged _ _ _ _ | (dsimp only; first | exact ib0 | exact ib1))
theorem nb_Ctl_movesSpecial (g : Nat → Int32) (sp : Nat → Int32) (nx : Int32) (lt : Int32) (ex : Int32) (id : Int32) (ia : Int32) (ib : Int32) (ii : Int32) : narrow .boolean (.int (f_Ctl_movesSpecial g sp nx lt ex id ia ib ii).1) = .int (f_Ctl_movesSpecial g sp nx lt ex id ia ib ii).1 := nb_of (ib_Ctl_movesSpecial g sp nx lt ex id ia ib ii)
set_option maxHeartbeats 4000000 in
set_option maxRecDepth 100000 in
theorem c_Ctl_movesSpecial (l : Launch) (D : va_G) (aS aG aX aI aK : Nat) (cG cX : ClassId) (g : Nat → Int32) (sp : Nat → Int32) (nx : Int32) (lt : Int32) (sm : Int32) (ex : Int32) (iw : Int32) (io : Int32) (id : Int32) (ia : Int32) (ib : Int32) (ii : Int32) (is : Int32) (iu : Int32) (_q0 : Nat) : kMi l y_Ctl_movesSpecial b_Ctl_movesSpecial 4 (some .boolean) 2 42 D kCl [(cG, .int), (cX, .int)] [.ref aK, .ref aI] [(aS, .inr (9, [.ref aG, .ref aX, .int nx, .int lt, .int sm, .int ex])), (aG, .inl (cG, 32, .inl g)), (aX, .inl (cX, 64, .inl sp)), (aI, .inr (5, [.int iw, .int io, .int id, .int ia, .int ib, .int ii, .int is, .int iu])), (aK, .inr (4, [.ref aS]))] (f_Ctl_movesSpecial g sp nx lt ex id ia ib ii).1 [(aS, .inr (9, [.ref aG, .ref aX, .int (f_Ctl_movesSpecial g sp nx lt ex id ia ib ii).2.2.2.1, .int (f_Ctl_movesSpecial g sp nx lt ex id ia ib ii).2.2.2.2.1, .int sm, .int (f_Ctl_movesSpecial g sp nx lt ex id ia ib ii).2.2.2.2.2])), (aG, .inl (cG, 32, .inl (f_Ctl_movesSpecial g sp nx lt ex id ia ib ii).2.1)), (aX, .inl (cX, 64, .inl (f_Ctl_movesSpecial g sp nx lt ex id ia ib ii).2.2.1)), (aI, .inr (5, [.int iw, .int io, .int id, .int ia, .int ib, .int ii, .int is, .int iu])), (aK, .inr (4, [.ref aS]))] := by
  refine k_entry (Qc := fun A => kQi D kCl [(cG, .int), (cX, .int)] (f_Ctl_movesSpecial g sp nx lt ex id ia ib ii).1 [(aS, .inr (9, [.ref aG, .ref aX, .int (f_Ctl_movesSpecial g sp nx lt ex id ia ib ii).2.2.2.1, .int (f_Ctl_movesSpecial g sp nx lt ex id ia ib ii).2.2.2.2.1, .int sm, .int (f_Ctl_movesSpecial g sp nx lt ex id ia ib ii).2.2.2.2.2])), (aG, .inl (cG, 32, .inl (f_Ctl_movesSpecial g sp nx lt ex id ia ib ii).2.1)), (aX, .inl (cX, 64, .inl (f_Ctl_movesSpecial g sp nx lt ex id ia ib ii).2.2.1)), (aI, .inr (5, [.int iw, .int io, .int id, .int ia, .int ib, .int ii, .int is, .int iu])), (aK, .inr (4, [.ref aS]))] A) (lv := [(0, .ref aK), (1, .ref aI)]) (by decide) (Nat.le_of_ble_eq_true rfl) rfl ?_
  intro p e s m below meth c A ls hx hb hr hml hB hown hlocks hin hA hK hN hP hD hS hl
  have hown : s.vm.findClass "MappedProcessor$Control" = some m.cls := hown
  refine lv_aload_n hx hb d_Ctl_movesSpecial_0 rfl (lv_at hl 1 rfl) ?_
  refine va_get (D := D) (ci := 5) (v := .int ib) (C := "MappedProcessor$Instruction") (T := T_Ins) (N := 8) hx hb hB iw_Ins hown hK hP 3 rfl rfl 4 (by decide) (hB _ mw_110) (fun _ h9 => h9) rfl d_Ctl_movesSpecial_1 ?_
  refine lv_bipush (v := (32 : Int32)) hx hb d_Ctl_movesSpecial_4 (by decide) ?_
  refine lv_imul hx hb d_Ctl_movesSpecial_6 ?_
  refine lv_aload_n hx hb d_Ctl_movesSpecial_7 rfl (lv_at hl 1 rfl) ?_
  refine va_get (D := D) (ci := 5) (v := .int ia) (C := "MappedProcessor$Instruction") (T := T_Ins) (N := 8) hx hb hB iw_Ins hown hK hP 3 rfl rfl 3 (by decide) (hB _ mw_103) (fun _ h9 => h9) rfl d_Ctl_movesSpecial_8 ?_
  refine lv_iadd hx hb d_Ctl_movesSpecial_11 ?_
  refine k_cSi (As := [.int ((ib * (32 : Int32)) + ia)]) (rest := []) (wr := [(aS, .inr (9, [.ref aG, .ref aX, .int nx, .int lt, .int sm, .int ex])), (aG, .inl (cG, 32, .inl g)), (aX, .inl (cX, 64, .inl sp)), (aI, .inr (5, [.int iw, .int io, .int id, .int ia, .int ib, .int ii, .int is, .int iu])), (aK, .inr (4, [.ref aS]))]) (wj := [(aS, .inr (9, [.ref aG, .ref aX, .int nx, .int lt, .int sm, .int ex])), (aG, .inl (cG, 32, .inl g)), (aX, .inl (cX, 64, .inl sp)), (aI, .inr (5, [.int iw, .int io, .int id, .int ia, .int ib, .int ii, .int is, .int iu])), (aK, .inr (4, [.ref aS]))]) ⟨hx, hb, hml, hown, hB⟩ (c_Ctl_specialOf l D ((ib * (32 : Int32)) + ia)) yl_Ctl_specialOf mw_547 hK hN hP hD hS hA [] [] [0, 1, 2, 3, 4] [0, 1, 2, 3, 4] rfl rfl rfl rfl (by decide +kernel) rfl hl.1 rfl (Nat.le_of_ble_eq_true rfl) ⟨Nat.le_of_ble_eq_true rfl, Nat.le_of_ble_eq_true rfl⟩ d_Ctl_movesSpecial_12 ⟨Nat.le_of_ble_eq_true rfl, Nat.le_of_ble_eq_true rfl⟩ (fun H locs hP hD hS => ?_)
  refine lv_istore_n (lv' := [(2, .int (f_Ctl_specialOf ((ib * (32 : Int32)) + ia))), (0, .ref aK), (1, .ref aI)]) hx hb d_Ctl_movesSpecial_15 rfl hl (by decide) rfl (fun ls hl => ?_)
  refine lv_iload_n hx hb d_Ctl_movesSpecial_16 rfl (lv_at hl 0 rfl) ?_
  refine lv_iconst (v := (-1 : Int32)) hx hb d_Ctl_movesSpecial_17 (by decide) ?_
  refine lv_icmp_ne (tgt := 23) hx hb d_Ctl_movesSpecial_18 (by decide) (fun (h1 : ¬ (f_Ctl_specialOf ((ib * (32 : Int32)) + ia)) = (-1 : Int32)) => ?_) (fun (h1 : (f_Ctl_specialOf ((ib * (32 : Int32)) + ia)) = (-1 : Int32)) => ?_)
  · refine lv_iload_n hx hb d_Ctl_movesSpecial_23 rfl (lv_at hl 0 rfl) ?_
    refine lv_iconst (v := (3 : Int32)) hx hb d_Ctl_movesSpecial_24 (by decide) ?_
    refine k_join2 (c0 := (f_Ctl_specialOf ((ib * (32 : Int32)) + ia)) = (3 : Int32)) (x1 := (1 : Int32)) (x2 := (if (f_Ctl_specialOf ((ib * (32 : Int32)) + ia)) = (4 : Int32) then (1 : Int32) else (if (f_Ctl_specialOf ((ib * (32 : Int32)) + ia)) = (5 : Int32) then (1 : Int32) else (0 : Int32)))) (rest := []) 43 ?_ (fun k3 k4 => ?_)
    rotate_left
    · refine lv_icmp_eq (tgt := 38) hx hb d_Ctl_movesSpecial_25 (by decide) (fun (h2 : (f_Ctl_specialOf ((ib * (32 : Int32)) + ia)) = (3 : Int32)) => ?_) (fun (h2 : ¬ (f_Ctl_specialOf ((ib * (32 : Int32)) + ia)) = (3 : Int32)) => ?_)
      · refine lv_iconst (v := (1 : Int32)) hx hb d_Ctl_movesSpecial_38 (by decide) ?_
        refine lv_goto (tgt := 43) hx hb d_Ctl_movesSpecial_39 (by decide) ?_
        exact k3 h2
      · refine lv_iload_n hx hb d_Ctl_movesSpecial_28 rfl (lv_at hl 0 rfl) ?_
        refine lv_iconst (v := (4 : Int32)) hx hb d_Ctl_movesSpecial_29 (by decide) ?_
        refine k_join2 (c0 := (f_Ctl_specialOf ((ib * (32 : Int32)) + ia)) = (4 : Int32)) (x1 := (1 : Int32)) (x2 := (if (f_Ctl_specialOf ((ib * (32 : Int32)) + ia)) = (5 : Int32) then (1 : Int32) else (0 : Int32))) (rest := []) 43 ?_ (fun k6 k7 => ?_)
        rotate_left
        · refine lv_icmp_eq (tgt := 38) hx hb d_Ctl_movesSpecial_30 (by decide) (fun (h5 : (f_Ctl_specialOf ((ib * (32 : Int32)) + ia)) = (4 : Int32)) => ?_) (fun (h5 : ¬ (f_Ctl_specialOf ((ib * (32 : Int32)) + ia)) = (4 : Int32)) => ?_)
          · refine lv_iconst (v := (1 : Int32)) hx hb d_Ctl_movesSpecial_38 (by decide) ?_
            refine lv_goto (tgt := 43) hx hb d_Ctl_movesSpecial_39 (by decide) ?_
            exact k6 h5
          · refine lv_iload_n hx hb d_Ctl_movesSpecial_33 rfl (lv_at hl 0 rfl) ?_
            refine lv_iconst (v := (5 : Int32)) hx hb d_Ctl_movesSpecial_34 (by decide) ?_
            refine k_join2 (c0 := (f_Ctl_specialOf ((ib * (32 : Int32)) + ia)) = (5 : Int32)) (x1 := (1 : Int32)) (x2 := (0 : Int32)) (rest := []) 43 ?_ (fun k9 k10 => ?_)
            rotate_left
            · refine lv_icmp_ne (tgt := 42) hx hb d_Ctl_movesSpecial_35 (by decide) (fun (h8 : ¬ (f_Ctl_specialOf ((ib * (32 : Int32)) + ia)) = (5 : Int32)) => ?_) (fun (h8 : (f_Ctl_specialOf ((ib * (32 : Int32)) + ia)) = (5 : Int32)) => ?_)
              · refine lv_iconst (v := (0 : Int32)) hx hb d_Ctl_movesSpecial_42 (by decide) ?_
                exact k10 h8
              · refine lv_iconst (v := (1 : Int32)) hx hb d_Ctl_movesSpecial_38 (by decide) ?_
                refine lv_goto (tgt := 43) hx hb d_Ctl_movesSpecial_39 (by decide) ?_
                exact k9 h8
            exact k7 h5
        exact k4 h2
    refine lv_istore_n (lv' := [(3, .int (if (f_Ctl_specialOf ((ib * (32 : Int32)) + ia)) = (3 : Int32) then (1 : Int32) else (if (f_Ctl_specialOf ((ib * (32 : Int32)) + ia)) = (4 : Int32) then (1 : Int32) else (if (f_Ctl_specialOf ((ib * (32 : Int32)) + ia)) = (5 : Int32) then (1 : Int32) else (0 : Int32))))), (2, .int (f_Ctl_specialOf ((ib * (32 : Int32)) + ia))), (0, .ref aK), (1, .ref aI)]) hx hb d_Ctl_movesSpecial_43 rfl hl (by decide) rfl (fun ls hl => ?_)
    refine lv_iload_n hx hb d_Ctl_movesSpecial_44 rfl (lv_at hl 0 rfl) ?_
    refine lv_if_ne (tgt := 60) hx hb d_Ctl_movesSpecial_45 (by decide) (fun (h17 : ¬ (if (f_Ctl_specialOf ((ib * (32 : Int32)) + ia)) = (3 : Int32) then (1 : Int32) else (if (f_Ctl_specialOf ((ib * (32 : Int32)) + ia)) = (4 : Int32) then (1 : Int32) else (if (f_Ctl_specialOf ((ib * (32 : Int32)) + ia)) = (5 : Int32) then (1 : Int32) else (0 : Int32)))) = (0 : Int32)) => ?_) (fun (h17 : (if (f_Ctl_specialOf ((ib * (32 : Int32)) + ia)) = (3 : Int32) then (1 : Int32) else (if (f_Ctl_specialOf ((ib * (32 : Int32)) + ia)) = (4 : Int32) then (1 : Int32) else (if (f_Ctl_specialOf ((ib * (32 : Int32)) + ia)) = (5 : Int32) then (1 : Int32) else (0 : Int32)))) = (0 : Int32)) => ?_)
    · refine lv_aload_n hx hb d_Ctl_movesSpecial_60 rfl (lv_at hl 3 rfl) ?_
      refine va_get (D := D) (ci := 5) (v := .int ii) (C := "MappedProcessor$Instruction") (T := T_Ins) (N := 8) hx hb hB iw_Ins hown hK hP 3 rfl rfl 5 (by decide) (hB _ mw_111) (fun _ h9 => h9) rfl d_Ctl_movesSpecial_61 ?_
      refine lv_sipush (v := (339 : Int32)) hx hb d_Ctl_movesSpecial_64 (by decide) ?_
      refine lv_icmp_ne (tgt := 92) hx hb d_Ctl_movesSpecial_67 (by decide) (fun (h21 : ¬ ii = (339 : Int32)) => ?_) (fun (h21 : ii = (339 : Int32)) => ?_)
      · refine lv_aload_n hx hb d_Ctl_movesSpecial_92 rfl (lv_at hl 2 rfl) ?_
        refine va_get (D := D) (ci := 4) (v := .ref aS) (C := "MappedProcessor$Control") (T := T_Ctl) (N := 1) hx hb hB iw_Ctl hown hK hP 4 rfl rfl 0 (by decide) (hB _ mw_189) (fun _ h9 => h9) rfl d_Ctl_movesSpecial_93 ?_
        refine lv_iload_n hx hb d_Ctl_movesSpecial_96 rfl (lv_at hl 1 rfl) ?_
        refine lv_aload_n hx hb d_Ctl_movesSpecial_97 rfl (lv_at hl 2 rfl) ?_
        refine va_get (D := D) (ci := 4) (v := .ref aS) (C := "MappedProcessor$Control") (T := T_Ctl) (N := 1) hx hb hB iw_Ctl hown hK hP 4 rfl rfl 0 (by decide) (hB _ mw_189) (fun _ h9 => h9) rfl d_Ctl_movesSpecial_98 ?_
        refine lv_aload_n hx hb d_Ctl_movesSpecial_101 rfl (lv_at hl 3 rfl) ?_
        refine va_get (D := D) (ci := 5) (v := .int id) (C := "MappedProcessor$Instruction") (T := T_Ins) (N := 8) hx hb hB iw_Ins hown hK hP 3 rfl rfl 2 (by decide) (hB _ mw_95) (fun _ h9 => h9) rfl d_Ctl_movesSpecial_102 ?_
        refine k_cVi (As := [.int id]) (rest := [.int (f_Ctl_specialOf ((ib * (32 : Int32)) + ia)), .ref aS]) (wr := [(aI, .inr (5, [.int iw, .int io, .int id, .int ia, .int ib, .int ii, .int is, .int iu])), (aK, .inr (4, [.ref aS]))]) (wj := [(aS, .inr (9, [.ref aG, .ref aX, .int nx, .int lt, .int sm, .int ex])), (aG, .inl (cG, 32, .inl g)), (aX, .inl (cX, 64, .inl sp)), (aI, .inr (5, [.int iw, .int io, .int id, .int ia, .int ib, .int ii, .int is, .int iu])), (aK, .inr (4, [.ref aS]))]) ⟨hx, hb, hml, hown, hB⟩ (c_Sta_register l D aS aG aX cG cX g sp nx lt sm ex id) yl_Sta_register mw_541 hK hN hP hD hS hA [0, 1] [0, 1, 2] [3, 4] [2, 3, 4, 0, 1] rfl rfl rfl rfl (by decide +kernel) 0 rfl rfl rfl rfl hl.1 rfl (Nat.le_of_ble_eq_true rfl) ⟨Nat.le_of_ble_eq_true rfl, Nat.le_of_ble_eq_true rfl⟩ d_Ctl_movesSpecial_105 ⟨Nat.le_of_ble_eq_true rfl, Nat.le_of_ble_eq_true rfl⟩ (fun H locs hP hD hS => ?_)
        refine k_cVv (As := [.int (f_Ctl_specialOf ((ib * (32 : Int32)) + ia)), .int (f_Sta_register id g)]) (rest := []) (wr := [(aI, .inr (5, [.int iw, .int io, .int id, .int ia, .int ib, .int ii, .int is, .int iu])), (aK, .inr (4, [.ref aS]))]) (wj := [(aS, .inr (9, [.ref aG, .ref aX, .int nx, .int lt, .int sm, .int ex])), (aG, .inl (cG, 32, .inl g)), (aX, .inl (cX, 64, .inl (f_Sta_keep (f_Ctl_specialOf ((ib * (32 : Int32)) + ia)) (f_Sta_register id g) sp))), (aI, .inr (5, [.int iw, .int io, .int id, .int ia, .int ib, .int ii, .int is, .int iu])), (aK, .inr (4, [.ref aS]))]) ⟨hx, hb, hml, hown, hB⟩ (c_Sta_keep l D aS aG aX cG cX g sp nx lt sm ex (f_Ctl_specialOf ((ib * (32 : Int32)) + ia)) (f_Sta_register id g)) yl_Sta_keep mw_542 hK hN hP hD hS hA [0, 1] [0, 1, 2] [3, 4] [2, 3, 4, 0, 1] rfl rfl rfl rfl (by decide +kernel) 0 rfl rfl rfl rfl hl.1 rfl (Nat.le_of_ble_eq_true rfl) ⟨Nat.le_of_ble_eq_true rfl, Nat.le_of_ble_eq_true rfl⟩ d_Ctl_movesSpecial_108 ⟨Nat.le_of_ble_eq_true rfl, Nat.le_of_ble_eq_true rfl⟩ (fun H locs hP hD hS => ?_)
        refine lv_iconst (v := (1 : Int32)) hx hb d_Ctl_movesSpecial_111 (by decide) ?_
        have ef : f_Ctl_movesSpecial g sp nx lt ex id ia ib ii = ((1 : Int32), g, (f_Sta_keep (f_Ctl_specialOf ((ib * (32 : Int32)) + ia)) (f_Sta_register id g) sp), nx, lt, ex) := by unfold f_Ctl_movesSpecial; try dsimp only; rw [if_neg h1, if_neg h17, if_neg h21]
        exact k_zret hx hb hr hlocks hK hP hD hS [0, 1, 2, 3, 4] rfl (by rw [ef] <;> rfl) (by rw [ef] <;> rfl) nb1 d_Ctl_movesSpecial_112
      · refine lv_aload_n hx hb d_Ctl_movesSpecial_70 rfl (lv_at hl 2 rfl) ?_
        refine va_get (D := D) (ci := 4) (v := .ref aS) (C := "MappedProcessor$Control") (T := T_Ctl) (N := 1) hx hb hB iw_Ctl hown hK hP 4 rfl rfl 0 (by decide) (hB _ mw_189) (fun _ h9 => h9) rfl d_Ctl_movesSpecial_71 ?_
        refine lv_aload_n hx hb d_Ctl_movesSpecial_74 rfl (lv_at hl 3 rfl) ?_
        refine va_get (D := D) (ci := 5) (v := .int id) (C := "MappedProcessor$Instruction") (T := T_Ins) (N := 8) hx hb hB iw_Ins hown hK hP 3 rfl rfl 2 (by decide) (hB _ mw_95) (fun _ h9 => h9) rfl d_Ctl_movesSpecial_75 ?_
        refine lv_aload_n hx hb d_Ctl_movesSpecial_78 rfl (lv_at hl 2 rfl) ?_
        refine va_get (D := D) (ci := 4) (v := .ref aS) (C := "MappedProcessor$Control") (T := T_Ctl) (N := 1) hx hb hB iw_Ctl hown hK hP 4 rfl rfl 0 (by decide) (hB _ mw_189) (fun _ h9 => h9) rfl d_Ctl_movesSpecial_79 ?_
        refine lv_iload_n hx hb d_Ctl_movesSpecial_82 rfl (lv_at hl 1 rfl) ?_
        refine k_cVi (As := [.int (f_Ctl_specialOf ((ib * (32 : Int32)) + ia))]) (rest := [.int id, .ref aS]) (wr := [(aI, .inr (5, [.int iw, .int io, .int id, .int ia, .int ib, .int ii, .int is, .int iu])), (aK, .inr (4, [.ref aS]))]) (wj := [(aS, .inr (9, [.ref aG, .ref aX, .int nx, .int lt, .int sm, .int ex])), (aG, .inl (cG, 32, .inl g)), (aX, .inl (cX, 64, .inl sp)), (aI, .inr (5, [.int iw, .int io, .int id, .int ia, .int ib, .int ii, .int is, .int iu])), (aK, .inr (4, [.ref aS]))]) ⟨hx, hb, hml, hown, hB⟩ (c_Sta_read l D aS aG aX cG cX g sp nx lt sm ex (f_Ctl_specialOf ((ib * (32 : Int32)) + ia))) yl_Sta_read mw_534 hK hN hP hD hS hA [0, 1] [0, 1, 2] [3, 4] [2, 3, 4, 0, 1] rfl rfl rfl rfl (by decide +kernel) 0 rfl rfl rfl rfl hl.1 rfl (Nat.le_of_ble_eq_true rfl) ⟨Nat.le_of_ble_eq_true rfl, Nat.le_of_ble_eq_true rfl⟩ d_Ctl_movesSpecial_83 ⟨Nat.le_of_ble_eq_true rfl, Nat.le_of_ble_eq_true rfl⟩ (fun H locs hP hD hS => ?_)
        refine k_cVv (As := [.int id, .int (f_Sta_read (f_Ctl_specialOf ((ib * (32 : Int32)) + ia)) sp)]) (rest := []) (wr := [(aI, .inr (5, [.int iw, .int io, .int id, .int ia, .int ib, .int ii, .int is, .int iu])), (aK, .inr (4, [.ref aS]))]) (wj := [(aS, .inr (9, [.ref aG, .ref aX, .int nx, .int lt, .int sm, .int ex])), (aG, .inl (cG, 32, .inl (f_Sta_keepRegister id (f_Sta_read (f_Ctl_specialOf ((ib * (32 : Int32)) + ia)) sp) g))), (aX, .inl (cX, 64, .inl sp)), (aI, .inr (5, [.int iw, .int io, .int id, .int ia, .int ib, .int ii, .int is, .int iu])), (aK, .inr (4, [.ref aS]))]) ⟨hx, hb, hml, hown, hB⟩ (c_Sta_keepRegister l D aS aG aX cG cX g sp nx lt sm ex id (f_Sta_read (f_Ctl_specialOf ((ib * (32 : Int32)) + ia)) sp)) yl_Sta_keepRegister mw_535 hK hN hP hD hS hA [0, 1] [0, 1, 2] [3, 4] [2, 3, 4, 0, 1] rfl rfl rfl rfl (by decide +kernel) 0 rfl rfl rfl rfl hl.1 rfl (Nat.le_of_ble_eq_true rfl) ⟨Nat.le_of_ble_eq_true rfl, Nat.le_of_ble_eq_true rfl⟩ d_Ctl_movesSpecial_86 ⟨Nat.le_of_ble_eq_true rfl, Nat.le_of_ble_eq_true rfl⟩ (fun H locs hP hD hS => ?_)
        refine lv_goto (tgt := 111) hx hb d_Ctl_movesSpecial_89 (by decide) ?_
        refine lv_iconst (v := (1 : Int32)) hx hb d_Ctl_movesSpecial_111 (by decide) ?_
        have ef : f_Ctl_movesSpecial g sp nx lt ex id ia ib ii = ((1 : Int32), (f_Sta_keepRegister id (f_Sta_read (f_Ctl_specialOf ((ib * (32 : Int32)) + ia)) sp) g), sp, nx, lt, ex) := by unfold f_Ctl_movesSpecial; try dsimp only; rw [if_neg h1, if_neg h17, if_pos h21]
        exact k_zret hx hb hr hlocks hK hP hD hS [0, 1, 2, 3, 4] rfl (by rw [ef] <;> rfl) (by rw [ef] <;> rfl) nb1 d_Ctl_movesSpecial_112
    · refine lv_aload_n hx hb d_Ctl_movesSpecial_48 rfl (lv_at hl 2 rfl) ?_
      refine va_get (D := D) (ci := 4) (v := .ref aS) (C := "MappedProcessor$Control") (T := T_Ctl) (N := 1) hx hb hB iw_Ctl hown hK hP 4 rfl rfl 0 (by decide) (hB _ mw_189) (fun _ h9 => h9) rfl d_Ctl_movesSpecial_49 ?_
      let t22 := (f_Sta_refusesPrivileged sp nx lt ex)
      refine k_cVi (As := []) (rest := []) (wr := [(aI, .inr (5, [.int iw, .int io, .int id, .int ia, .int ib, .int ii, .int is, .int iu])), (aK, .inr (4, [.ref aS]))]) (wj := [(aS, .inr (9, [.ref aG, .ref aX, .int t22.2.2.1, .int t22.2.2.2.1, .int sm, .int t22.2.2.2.2])), (aG, .inl (cG, 32, .inl g)), (aX, .inl (cX, 64, .inl t22.2.1)), (aI, .inr (5, [.int iw, .int io, .int id, .int ia, .int ib, .int ii, .int is, .int iu])), (aK, .inr (4, [.ref aS]))]) ⟨hx, hb, hml, hown, hB⟩ (c_Sta_refusesPrivileged l D aS aG aX cG cX g sp nx lt sm ex) yl_Sta_refusesPrivileged mw_550 hK hN hP hD hS hA [0, 1] [0, 1, 2] [3, 4] [2, 3, 4, 0, 1] rfl rfl rfl rfl (by decide +kernel) 0 rfl rfl rfl rfl hl.1 rfl (Nat.le_of_ble_eq_true rfl) ⟨Nat.le_of_ble_eq_true rfl, Nat.le_of_ble_eq_true rfl⟩ d_Ctl_movesSpecial_52 ⟨Nat.le_of_ble_eq_true rfl, Nat.le_of_ble_eq_true rfl⟩ (fun H locs hP hD hS => ?_)
      refine lv_if_eq (tgt := 60) hx hb d_Ctl_movesSpecial_55 (by decide) (fun (h23 : t22.1 = (0 : Int32)) => ?_) (fun (h23 : ¬ t22.1 = (0 : Int32)) => ?_)
      · refine lv_aload_n hx hb d_Ctl_movesSpecial_60 rfl (lv_at hl 3 rfl) ?_
        refine va_get (D := D) (ci := 5) (v := .int ii) (C := "MappedProcessor$Instruction") (T := T_Ins) (N := 8) hx hb hB iw_Ins hown hK hP 3 rfl rfl 5 (by decide) (hB _ mw_111) (fun _ h9 => h9) rfl d_Ctl_movesSpecial_61 ?_
        refine lv_sipush (v := (339 : Int32)) hx hb d_Ctl_movesSpecial_64 (by decide) ?_
        refine lv_icmp_ne (tgt := 92) hx hb d_Ctl_movesSpecial_67 (by decide) (fun (h27 : ¬ ii = (339 : Int32)) => ?_) (fun (h27 : ii = (339 : Int32)) => ?_)
        · refine lv_aload_n hx hb d_Ctl_movesSpecial_92 rfl (lv_at hl 2 rfl) ?_
          refine va_get (D := D) (ci := 4) (v := .ref aS) (C := "MappedProcessor$Control") (T := T_Ctl) (N := 1) hx hb hB iw_Ctl hown hK hP 4 rfl rfl 0 (by decide) (hB _ mw_189) (fun _ h9 => h9) rfl d_Ctl_movesSpecial_93 ?_
          refine lv_iload_n hx hb d_Ctl_movesSpecial_96 rfl (lv_at hl 1 rfl) ?_
          refine lv_aload_n hx hb d_Ctl_movesSpecial_97 rfl (lv_at hl 2 rfl) ?_
          refine va_get (D := D) (ci := 4) (v := .ref aS) (C := "MappedProcessor$Control") (T := T_Ctl) (N := 1) hx hb hB iw_Ctl hown hK hP 4 rfl rfl 0 (by decide) (hB _ mw_189) (fun _ h9 => h9) rfl d_Ctl_movesSpecial_98 ?_
          refine lv_aload_n hx hb d_Ctl_movesSpecial_101 rfl (lv_at hl 3 rfl) ?_
          refine va_get (D := D) (ci := 5) (v := .int id) (C := "MappedProcessor$Instruction") (T := T_Ins) (N := 8) hx hb hB iw_Ins hown hK hP 3 rfl rfl 2 (by decide) (hB _ mw_95) (fun _ h9 => h9) rfl d_Ctl_movesSpecial_102 ?_
          refine k_cVi (As := [.int id]) (rest := [.int (f_Ctl_specialOf ((ib * (32 : Int32)) + ia)), .ref aS]) (wr := [(aI, .inr (5, [.int iw, .int io, .int id, .int ia, .int ib, .int ii, .int is, .int iu])), (aK, .inr (4, [.ref aS]))]) (wj := [(aS, .inr (9, [.ref aG, .ref aX, .int t22.2.2.1, .int t22.2.2.2.1, .int sm, .int t22.2.2.2.2])), (aG, .inl (cG, 32, .inl g)), (aX, .inl (cX, 64, .inl t22.2.1)), (aI, .inr (5, [.int iw, .int io, .int id, .int ia, .int ib, .int ii, .int is, .int iu])), (aK, .inr (4, [.ref aS]))]) ⟨hx, hb, hml, hown, hB⟩ (c_Sta_register l D aS aG aX cG cX g t22.2.1 t22.2.2.1 t22.2.2.2.1 sm t22.2.2.2.2 id) yl_Sta_register mw_541 hK hN hP hD hS hA [0, 1] [0, 1, 2] [3, 4] [2, 3, 4, 0, 1] rfl rfl rfl rfl (by decide +kernel) 0 rfl rfl rfl rfl hl.1 rfl (Nat.le_of_ble_eq_true rfl) ⟨Nat.le_of_ble_eq_true rfl, Nat.le_of_ble_eq_true rfl⟩ d_Ctl_movesSpecial_105 ⟨Nat.le_of_ble_eq_true rfl, Nat.le_of_ble_eq_true rfl⟩ (fun H locs hP hD hS => ?_)
          refine k_cVv (As := [.int (f_Ctl_specialOf ((ib * (32 : Int32)) + ia)), .int (f_Sta_register id g)]) (rest := []) (wr := [(aI, .inr (5, [.int iw, .int io, .int id, .int ia, .int ib, .int ii, .int is, .int iu])), (aK, .inr (4, [.ref aS]))]) (wj := [(aS, .inr (9, [.ref aG, .ref aX, .int t22.2.2.1, .int t22.2.2.2.1, .int sm, .int t22.2.2.2.2])), (aG, .inl (cG, 32, .inl g)), (aX, .inl (cX, 64, .inl (f_Sta_keep (f_Ctl_specialOf ((ib * (32 : Int32)) + ia)) (f_Sta_register id g) t22.2.1))), (aI, .inr (5, [.int iw, .int io, .int id, .int ia, .int ib, .int ii, .int is, .int iu])), (aK, .inr (4, [.ref aS]))]) ⟨hx, hb, hml, hown, hB⟩ (c_Sta_keep l D aS aG aX cG cX g t22.2.1 t22.2.2.1 t22.2.2.2.1 sm t22.2.2.2.2 (f_Ctl_specialOf ((ib * (32 : Int32)) + ia)) (f_Sta_register id g)) yl_Sta_keep mw_542 hK hN hP hD hS hA [0, 1] [0, 1, 2] [3, 4] [2, 3, 4, 0, 1] rfl rfl rfl rfl (by decide +kernel) 0 rfl rfl rfl rfl hl.1 rfl (Nat.le_of_ble_eq_true rfl) ⟨Nat.le_of_ble_eq_true rfl, Nat.le_of_ble_eq_true rfl⟩ d_Ctl_movesSpecial_108 ⟨Nat.le_of_ble_eq_true rfl, Nat.le_of_ble_eq_true rfl⟩ (fun H locs hP hD hS => ?_)
          refine lv_iconst (v := (1 : Int32)) hx hb d_Ctl_movesSpecial_111 (by decide) ?_
          have ef : f_Ctl_movesSpecial g sp nx lt ex id ia ib ii = ((1 : Int32), g, (f_Sta_keep (f_Ctl_specialOf ((ib * (32 : Int32)) + ia)) (f_Sta_register id g) t22.2.1), t22.2.2.1, t22.2.2.2.1, t22.2.2.2.2) := by unfold f_Ctl_movesSpecial; try dsimp only; rw [if_neg h1, if_pos h17, if_pos h23, if_neg h27]
          exact k_zret hx hb hr hlocks hK hP hD hS [0, 1, 2, 3, 4] rfl (by rw [ef] <;> rfl) (by rw [ef] <;> rfl) nb1 d_Ctl_movesSpecial_112
        · refine lv_aload_n hx hb d_Ctl_movesSpecial_70 rfl (lv_at hl 2 rfl) ?_
          refine va_get (D := D) (ci := 4) (v := .ref aS) (C := "MappedProcessor$Control") (T := T_Ctl) (N := 1) hx hb hB iw_Ctl hown hK hP 4 rfl rfl 0 (by decide) (hB _ mw_189) (fun _ h9 => h9) rfl d_Ctl_movesSpecial_71 ?_
          refine lv_aload_n hx hb d_Ctl_movesSpecial_74 rfl (lv_at hl 3 rfl) ?_
          refine va_get (D := D) (ci := 5) (v := .int id) (C := "MappedProcessor$Instruction") (T := T_Ins) (N := 8) hx hb hB iw_Ins hown hK hP 3 rfl rfl 2 (by decide) (hB _ mw_95) (fun _ h9 => h9) rfl d_Ctl_movesSpecial_75 ?_
          refine lv_aload_n hx hb d_Ctl_movesSpecial_78 rfl (lv_at hl 2 rfl) ?_
          refine va_get (D := D) (ci := 4) (v := .ref aS) (C := "MappedProcessor$Control") (T := T_Ctl) (N := 1) hx hb hB iw_Ctl hown hK hP 4 rfl rfl 0 (by decide) (hB _ mw_189) (fun _ h9 => h9) rfl d_Ctl_movesSpecial_79 ?_
          refine lv_iload_n hx hb d_Ctl_movesSpecial_82 rfl (lv_at hl 1 rfl) ?_
          refine k_cVi (As := [.int (f_Ctl_specialOf ((ib * (32 : Int32)) + ia))]) (rest := [.int id, .ref aS]) (wr := [(aI, .inr (5, [.int iw, .int io, .int id, .int ia, .int ib, .int ii, .int is, .int iu])), (aK, .inr (4, [.ref aS]))]) (wj := [(aS, .inr (9, [.ref aG, .ref aX, .int t22.2.2.1, .int t22.2.2.2.1, .int sm, .int t22.2.2.2.2])), (aG, .inl (cG, 32, .inl g)), (aX, .inl (cX, 64, .inl t22.2.1)), (aI, .inr (5, [.int iw, .int io, .int id, .int ia, .int ib, .int ii, .int is, .int iu])), (aK, .inr (4, [.ref aS]))]) ⟨hx, hb, hml, hown, hB⟩ (c_Sta_read l D aS aG aX cG cX g t22.2.1 t22.2.2.1 t22.2.2.2.1 sm t22.2.2.2.2 (f_Ctl_specialOf ((ib * (32 : Int32)) + ia))) yl_Sta_read mw_534 hK hN hP hD hS hA [0, 1] [0, 1, 2] [3, 4] [2, 3, 4, 0, 1] rfl rfl rfl rfl (by decide +kernel) 0 rfl rfl rfl rfl hl.1 rfl (Nat.le_of_ble_eq_true rfl) ⟨Nat.le_of_ble_eq_true rfl, Nat.le_of_ble_eq_true rfl⟩ d_Ctl_movesSpecial_83 ⟨Nat.le_of_ble_eq_true rfl, Nat.le_of_ble_eq_true rfl⟩ (fun H locs hP hD hS => ?_)
          refine k_cVv (As := [.int id, .int (f_Sta_read (f_Ctl_specialOf ((ib * (32 : Int32)) + ia)) t22.2.1)]) (rest := []) (wr := [(aI, .inr (5, [.int iw, .int io, .int id, .int ia, .int ib, .int ii, .int is, .int iu])), (aK, .inr (4, [.ref aS]))]) (wj := [(aS, .inr (9, [.ref aG, .ref aX, .int t22.2.2.1, .int t22.2.2.2.1, .int sm, .int t22.2.2.2.2])), (aG, .inl (cG, 32, .inl (f_Sta_keepRegister id (f_Sta_read (f_Ctl_specialOf ((ib * (32 : Int32)) + ia)) t22.2.1) g))), (aX, .inl (cX, 64, .inl t22.2.1)), (aI, .inr (5, [.int iw, .int io, .int id, .int ia, .int ib, .int ii, .int is, .int iu])), (aK, .inr (4, [.ref aS]))]) ⟨hx, hb, hml, hown, hB⟩ (c_Sta_keepRegister l D aS aG aX cG cX g t22.2.1 t22.2.2.1 t22.2.2.2.1 sm t22.2.2.2.2 id (f_Sta_read (f_Ctl_specialOf ((ib * (32 : Int32)) + ia)) t22.2.1)) yl_Sta_keepRegister mw_535 hK hN hP hD hS hA [0, 1] [0, 1, 2] [3, 4] [2, 3, 4, 0, 1] rfl rfl rfl rfl (by decide +kernel) 0 rfl rfl rfl rfl hl.1 rfl (Nat.le_of_ble_eq_true rfl) ⟨Nat.le_of_ble_eq_true rfl, Nat.le_of_ble_eq_true rfl⟩ d_Ctl_movesSpecial_86 ⟨Nat.le_of_ble_eq_true rfl, Nat.le_of_ble_eq_true rfl⟩ (fun H locs hP hD hS => ?_)
          refine lv_goto (tgt := 111) hx hb d_Ctl_movesSpecial_89 (by decide) ?_
          refine lv_iconst (v := (1 : Int32)) hx hb d_Ctl_movesSpecial_111 (by decide) ?_
          have ef : f_Ctl_movesSpecial g sp nx lt ex id ia ib ii = ((1 : Int32), (f_Sta_keepRegister id (f_Sta_read (f_Ctl_specialOf ((ib * (32 : Int32)) + ia)) t22.2.1) g), t22.2.1, t22.2.2.1, t22.2.2.2.1, t22.2.2.2.2) := by unfold f_Ctl_movesSpecial; try dsimp only; rw [if_neg h1, if_pos h17, if_pos h23, if_pos h27]
          exact k_zret hx hb hr hlocks hK hP hD hS [0, 1, 2, 3, 4] rfl (by rw [ef] <;> rfl) (by rw [ef] <;> rfl) nb1 d_Ctl_movesSpecial_112
      · refine lv_iconst (v := (1 : Int32)) hx hb d_Ctl_movesSpecial_58 (by decide) ?_
        have ef : f_Ctl_movesSpecial g sp nx lt ex id ia ib ii = ((1 : Int32), g, t22.2.1, t22.2.2.1, t22.2.2.2.1, t22.2.2.2.2) := by unfold f_Ctl_movesSpecial; try dsimp only; rw [if_neg h1, if_pos h17, if_neg h23]
        exact k_zret hx hb hr hlocks hK hP hD hS [0, 1, 2, 3, 4] rfl (by rw [ef] <;> rfl) (by rw [ef] <;> rfl) nb1 d_Ctl_movesSpecial_59
  · refine lv_iconst (v := (0 : Int32)) hx hb d_Ctl_movesSpecial_21 (by decide) ?_
    have ef : f_Ctl_movesSpecial g sp nx lt ex id ia ib ii = ((0 : Int32), g, sp, nx, lt, ex) := by unfold f_Ctl_movesSpecial; try dsimp only; rw [if_pos h1]
    exact k_zret hx hb hr hlocks hK hP hD hS [0, 1, 2, 3, 4] rfl (by rw [ef] <;> rfl) (by rw [ef] <;> rfl) nb0 d_Ctl_movesSpecial_22
/-! MappedProcessor$Control.movePrivileged(LMappedProcessor$Instruction;)V -/
theorem d_Ctl_movePrivileged_0 : decode b_Ctl_movePrivileged 0 = .ok (.bipush 32, 2) := by decide +kernel
theorem d_Ctl_movePrivileged_2 : decode b_Ctl_movePrivileged 2 = .ok (.aload_n 1, 1) := by decide +kernel
theorem d_Ctl_movePrivileged_3 : decode b_Ctl_movePrivileged 3 = .ok (.getfield 59, 3) := by decide +kernel
theorem d_Ctl_movePrivileged_6 : decode b_Ctl_movePrivileged 6 = .ok (.bipush 15, 2) := by decide +kernel
theorem d_Ctl_movePrivileged_8 : decode b_Ctl_movePrivileged 8 = .ok (.iand, 1) := by decide +kernel
theorem d_Ctl_movePrivileged_9 : decode b_Ctl_movePrivileged 9 = .ok (.iadd, 1) := by decide +kernel
theorem d_Ctl_movePrivileged_10 : decode b_Ctl_movePrivileged 10 = .ok (.istore_n 2, 1) := by decide +kernel
theorem d_Ctl_movePrivileged_11 : decode b_Ctl_movePrivileged 11 = .ok (.aload_n 1, 1) := by decide +kernel
theorem d_Ctl_movePrivileged_12 : decode b_Ctl_movePrivileged 12 = .ok (.getfield 15, 3) := by decide +kernel
theorem d_Ctl_movePrivileged_15 : decode b_Ctl_movePrivileged 15 = .ok (.lookupswitch 102 #[(83, 33), (146, 55), (210, 80)], 33) := by decide +kernel
theorem d_Ctl_movePrivileged_48 : decode b_Ctl_movePrivileged 48 = .ok (.aload_n 0, 1) := by decide +kernel
theorem d_Ctl_movePrivileged_49 : decode b_Ctl_movePrivileged 49 = .ok (.getfield 9, 3) := by decide +kernel
theorem d_Ctl_movePrivileged_52 : decode b_Ctl_movePrivileged 52 = .ok (.aload_n 1, 1) := by decide +kernel
theorem d_Ctl_movePrivileged_53 : decode b_Ctl_movePrivileged 53 = .ok (.getfield 21, 3) := by decide +kernel
theorem d_Ctl_movePrivileged_56 : decode b_Ctl_movePrivileged 56 = .ok (.aload_n 0, 1) := by decide +kernel
theorem d_Ctl_movePrivileged_57 : decode b_Ctl_movePrivileged 57 = .ok (.getfield 9, 3) := by decide +kernel
theorem d_Ctl_movePrivileged_60 : decode b_Ctl_movePrivileged 60 = .ok (.iconst 1, 1) := by decide +kernel
theorem d_Ctl_movePrivileged_61 : decode b_Ctl_movePrivileged 61 = .ok (.invokevirtual 24, 3) := by decide +kernel
theorem d_Ctl_movePrivileged_64 : decode b_Ctl_movePrivileged 64 = .ok (.invokevirtual 30, 3) := by decide +kernel
theorem d_Ctl_movePrivileged_67 : decode b_Ctl_movePrivileged 67 = .ok (.goto 69, 3) := by decide +kernel
theorem d_Ctl_movePrivileged_70 : decode b_Ctl_movePrivileged 70 = .ok (.aload_n 0, 1) := by decide +kernel
theorem d_Ctl_movePrivileged_71 : decode b_Ctl_movePrivileged 71 = .ok (.getfield 9, 3) := by decide +kernel
theorem d_Ctl_movePrivileged_74 : decode b_Ctl_movePrivileged 74 = .ok (.iconst 1, 1) := by decide +kernel
theorem d_Ctl_movePrivileged_75 : decode b_Ctl_movePrivileged 75 = .ok (.aload_n 0, 1) := by decide +kernel
theorem d_Ctl_movePrivileged_76 : decode b_Ctl_movePrivileged 76 = .ok (.getfield 9, 3) := by decide +kernel
theorem d_Ctl_movePrivileged_79 : decode b_Ctl_movePrivileged 79 = .ok (.aload_n 1, 1) := by decide +kernel
theorem d_Ctl_movePrivileged_80 : decode b_Ctl_movePrivileged 80 = .ok (.getfield 21, 3) := by decide +kernel
theorem d_Ctl_movePrivileged_83 : decode b_Ctl_movePrivileged 83 = .ok (.invokevirtual 53, 3) := by decide +kernel
theorem d_Ctl_movePrivileged_86 : decode b_Ctl_movePrivileged 86 = .ok (.ldc 62, 2) := by decide +kernel
theorem d_Ctl_movePrivileged_88 : decode b_Ctl_movePrivileged 88 = .ok (.iand, 1) := by decide +kernel
theorem d_Ctl_movePrivileged_89 : decode b_Ctl_movePrivileged 89 = .ok (.invokevirtual 56, 3) := by decide +kernel
theorem d_Ctl_movePrivileged_92 : decode b_Ctl_movePrivileged 92 = .ok (.goto 44, 3) := by decide +kernel
theorem d_Ctl_movePrivileged_95 : decode b_Ctl_movePrivileged 95 = .ok (.aload_n 0, 1) := by decide +kernel
theorem d_Ctl_movePrivileged_96 : decode b_Ctl_movePrivileged 96 = .ok (.getfield 9, 3) := by decide +kernel
theorem d_Ctl_movePrivileged_99 : decode b_Ctl_movePrivileged 99 = .ok (.iload_n 2, 1) := by decide +kernel
theorem d_Ctl_movePrivileged_100 : decode b_Ctl_movePrivileged 100 = .ok (.aload_n 0, 1) := by decide +kernel
theorem d_Ctl_movePrivileged_101 : decode b_Ctl_movePrivileged 101 = .ok (.getfield 9, 3) := by decide +kernel
theorem d_Ctl_movePrivileged_104 : decode b_Ctl_movePrivileged 104 = .ok (.aload_n 1, 1) := by decide +kernel
theorem d_Ctl_movePrivileged_105 : decode b_Ctl_movePrivileged 105 = .ok (.getfield 21, 3) := by decide +kernel
theorem d_Ctl_movePrivileged_108 : decode b_Ctl_movePrivileged 108 = .ok (.invokevirtual 53, 3) := by decide +kernel
theorem d_Ctl_movePrivileged_111 : decode b_Ctl_movePrivileged 111 = .ok (.invokevirtual 56, 3) := by decide +kernel
theorem d_Ctl_movePrivileged_114 : decode b_Ctl_movePrivileged 114 = .ok (.goto 22, 3) := by decide +kernel
theorem d_Ctl_movePrivileged_117 : decode b_Ctl_movePrivileged 117 = .ok (.aload_n 0, 1) := by decide +kernel
theorem d_Ctl_movePrivileged_118 : decode b_Ctl_movePrivileged 118 = .ok (.getfield 9, 3) := by decide +kernel
theorem d_Ctl_movePrivileged_121 : decode b_Ctl_movePrivileged 121 = .ok (.aload_n 1, 1) := by decide +kernel
theorem d_Ctl_movePrivileged_122 : decode b_Ctl_movePrivileged 122 = .ok (.getfield 21, 3) := by decide +kernel
theorem d_Ctl_movePrivileged_125 : decode b_Ctl_movePrivileged 125 = .ok (.aload_n 0, 1) := by decide +kernel
theorem d_Ctl_movePrivileged_126 : decode b_Ctl_movePrivileged 126 = .ok (.getfield 9, 3) := by decide +kernel
theorem d_Ctl_movePrivileged_129 : decode b_Ctl_movePrivileged 129 = .ok (.iload_n 2, 1) := by decide +kernel
theorem d_Ctl_movePrivileged_130 : decode b_Ctl_movePrivileged 130 = .ok (.invokevirtual 24, 3) := by decide +kernel
theorem d_Ctl_movePrivileged_133 : decode b_Ctl_movePrivileged 133 = .ok (.invokevirtual 30, 3) := by decide +kernel
theorem d_Ctl_movePrivileged_136 : decode b_Ctl_movePrivileged 136 = .ok (.return_, 1) := by decide +kernel
def f_Ctl_movePrivileged (g : Nat → Int32) (sp : Nat → Int32) (id : Int32) (ia : Int32) (ii : Int32) : (Nat → Int32) × (Nat → Int32) :=
  if ii = (83 : Int32) then
    ((f_Sta_keepRegister id (f_Sta_read (1 : Int32) sp) g), sp)
  else
    if ii = (146 : Int32) then
      (g, (f_Sta_keep (1 : Int32) ((f_Sta_register id g) &&& (65535 : Int32)) sp))
    else
      if ii = (210 : Int32) then
        (g, (f_Sta_keep ((32 : Int32) + (ia &&& (15 : Int32))) (f_Sta_register id g) sp))
      else
        ((f_Sta_keepRegister id (f_Sta_read ((32 : Int32) + (ia &&& (15 : Int32))) sp) g), sp)
set_option maxHeartbeats 4000000 in
set_option maxRecDepth 100000 in
theorem c_Ctl_movePrivileged (l : Launch) (D : va_G) (aS aG aX aI aK : Nat) (cG cX : ClassId) (g : Nat → Int32) (sp : Nat → Int32) (nx : Int32) (lt : Int32) (sm : Int32) (ex : Int32) (iw : Int32) (io : Int32) (id : Int32) (ia : Int32) (ib : Int32) (ii : Int32) (is : Int32) (iu : Int32) (_q0 : Nat) : kMv l y_Ctl_movePrivileged b_Ctl_movePrivileged 3 none 1 22 D kCl [(cG, .int), (cX, .int)] [.ref aK, .ref aI] [(aS, .inr (9, [.ref aG, .ref aX, .int nx, .int lt, .int sm, .int ex])), (aG, .inl (cG, 32, .inl g)), (aX, .inl (cX, 64, .inl sp)), (aI, .inr (5, [.int iw, .int io, .int id, .int ia, .int ib, .int ii, .int is, .int iu])), (aK, .inr (4, [.ref aS]))] [(aS, .inr (9, [.ref aG, .ref aX, .int nx, .int lt, .int sm, .int ex])), (aG, .inl (cG, 32, .inl (f_Ctl_movePrivileged g sp id ia ii).1)), (aX, .inl (cX, 64, .inl (f_Ctl_movePrivileged g sp id ia ii).2)), (aI, .inr (5, [.int iw, .int io, .int id, .int ia, .int ib, .int ii, .int is, .int iu])), (aK, .inr (4, [.ref aS]))] := by
  refine k_entry (Qc := fun A => kQv D kCl [(cG, .int), (cX, .int)] [(aS, .inr (9, [.ref aG, .ref aX, .int nx, .int lt, .int sm, .int ex])), (aG, .inl (cG, 32, .inl (f_Ctl_movePrivileged g sp id ia ii).1)), (aX, .inl (cX, 64, .inl (f_Ctl_movePrivileged g sp id ia ii).2)), (aI, .inr (5, [.int iw, .int io, .int id, .int ia, .int ib, .int ii, .int is, .int iu])), (aK, .inr (4, [.ref aS]))] A) (lv := [(0, .ref aK), (1, .ref aI)]) (by decide) (Nat.le_of_ble_eq_true rfl) rfl ?_
  intro p e s m below meth c A ls hx hb hr hml hB hown hlocks hin hA hK hN hP hD hS hl
  have hown : s.vm.findClass "MappedProcessor$Control" = some m.cls := hown
  refine lv_bipush (v := (32 : Int32)) hx hb d_Ctl_movePrivileged_0 (by decide) ?_
  refine lv_aload_n hx hb d_Ctl_movePrivileged_2 rfl (lv_at hl 1 rfl) ?_
  refine va_get (D := D) (ci := 5) (v := .int ia) (C := "MappedProcessor$Instruction") (T := T_Ins) (N := 8) hx hb hB iw_Ins hown hK hP 3 rfl rfl 3 (by decide) (hB _ mw_103) (fun _ h9 => h9) rfl d_Ctl_movePrivileged_3 ?_
  refine lv_bipush (v := (15 : Int32)) hx hb d_Ctl_movePrivileged_6 (by decide) ?_
  refine lv_iand hx hb d_Ctl_movePrivileged_8 ?_
  refine lv_iadd hx hb d_Ctl_movePrivileged_9 ?_
  refine lv_istore_n (lv' := [(2, .int ((32 : Int32) + (ia &&& (15 : Int32)))), (0, .ref aK), (1, .ref aI)]) hx hb d_Ctl_movePrivileged_10 rfl hl (by decide) rfl (fun ls hl => ?_)
  refine lv_aload_n hx hb d_Ctl_movePrivileged_11 rfl (lv_at hl 2 rfl) ?_
  refine va_get (D := D) (ci := 5) (v := .int ii) (C := "MappedProcessor$Instruction") (T := T_Ins) (N := 8) hx hb hB iw_Ins hown hK hP 3 rfl rfl 5 (by decide) (hB _ mw_111) (fun _ h9 => h9) rfl d_Ctl_movePrivileged_12 ?_
  by_cases h1 : ii = (83 : Int32)
  · refine lv_lookup (off := 33) (tgt := 48) hx hb d_Ctl_movePrivileged_15 (by decide) (by have hq9 := h1 <;> rw [hq9] <;> rfl) (by decide) ?_
    refine lv_aload_n hx hb d_Ctl_movePrivileged_48 rfl (lv_at hl 1 rfl) ?_
    refine va_get (D := D) (ci := 4) (v := .ref aS) (C := "MappedProcessor$Control") (T := T_Ctl) (N := 1) hx hb hB iw_Ctl hown hK hP 4 rfl rfl 0 (by decide) (hB _ mw_189) (fun _ h9 => h9) rfl d_Ctl_movePrivileged_49 ?_
    refine lv_aload_n hx hb d_Ctl_movePrivileged_52 rfl (lv_at hl 2 rfl) ?_
    refine va_get (D := D) (ci := 5) (v := .int id) (C := "MappedProcessor$Instruction") (T := T_Ins) (N := 8) hx hb hB iw_Ins hown hK hP 3 rfl rfl 2 (by decide) (hB _ mw_95) (fun _ h9 => h9) rfl d_Ctl_movePrivileged_53 ?_
    refine lv_aload_n hx hb d_Ctl_movePrivileged_56 rfl (lv_at hl 1 rfl) ?_
    refine va_get (D := D) (ci := 4) (v := .ref aS) (C := "MappedProcessor$Control") (T := T_Ctl) (N := 1) hx hb hB iw_Ctl hown hK hP 4 rfl rfl 0 (by decide) (hB _ mw_189) (fun _ h9 => h9) rfl d_Ctl_movePrivileged_57 ?_
    refine lv_iconst (v := (1 : Int32)) hx hb d_Ctl_movePrivileged_60 (by decide) ?_
    refine k_cVi (As := [.int (1 : Int32)]) (rest := [.int id, .ref aS]) (wr := [(aI, .inr (5, [.int iw, .int io, .int id, .int ia, .int ib, .int ii, .int is, .int iu])), (aK, .inr (4, [.ref aS]))]) (wj := [(aS, .inr (9, [.ref aG, .ref aX, .int nx, .int lt, .int sm, .int ex])), (aG, .inl (cG, 32, .inl g)), (aX, .inl (cX, 64, .inl sp)), (aI, .inr (5, [.int iw, .int io, .int id, .int ia, .int ib, .int ii, .int is, .int iu])), (aK, .inr (4, [.ref aS]))]) ⟨hx, hb, hml, hown, hB⟩ (c_Sta_read l D aS aG aX cG cX g sp nx lt sm ex (1 : Int32)) yl_Sta_read mw_534 hK hN hP hD hS hA [0, 1] [0, 1, 2] [3, 4] [2, 3, 4, 0, 1] rfl rfl rfl rfl (by decide +kernel) 0 rfl rfl rfl rfl hl.1 rfl (Nat.le_of_ble_eq_true rfl) ⟨Nat.le_of_ble_eq_true rfl, Nat.le_of_ble_eq_true rfl⟩ d_Ctl_movePrivileged_61 ⟨Nat.le_of_ble_eq_true rfl, Nat.le_of_ble_eq_true rfl⟩ (fun H locs hP hD hS => ?_)
    refine k_cVv (As := [.int id, .int (f_Sta_read (1 : Int32) sp)]) (rest := []) (wr := [(aI, .inr (5, [.int iw, .int io, .int id, .int ia, .int ib, .int ii, .int is, .int iu])), (aK, .inr (4, [.ref aS]))]) (wj := [(aS, .inr (9, [.ref aG, .ref aX, .int nx, .int lt, .int sm, .int ex])), (aG, .inl (cG, 32, .inl (f_Sta_keepRegister id (f_Sta_read (1 : Int32) sp) g))), (aX, .inl (cX, 64, .inl sp)), (aI, .inr (5, [.int iw, .int io, .int id, .int ia, .int ib, .int ii, .int is, .int iu])), (aK, .inr (4, [.ref aS]))]) ⟨hx, hb, hml, hown, hB⟩ (c_Sta_keepRegister l D aS aG aX cG cX g sp nx lt sm ex id (f_Sta_read (1 : Int32) sp)) yl_Sta_keepRegister mw_535 hK hN hP hD hS hA [0, 1] [0, 1, 2] [3, 4] [2, 3, 4, 0, 1] rfl rfl rfl rfl (by decide +kernel) 0 rfl rfl rfl rfl hl.1 rfl (Nat.le_of_ble_eq_true rfl) ⟨Nat.le_of_ble_eq_true rfl, Nat.le_of_ble_eq_true rfl⟩ d_Ctl_movePrivileged_64 ⟨Nat.le_of_ble_eq_true rfl, Nat.le_of_ble_eq_true rfl⟩ (fun H locs hP hD hS => ?_)
    refine lv_goto (tgt := 136) hx hb d_Ctl_movePrivileged_67 (by decide) ?_
    have ef : f_Ctl_movePrivileged g sp id ia ii = ((f_Sta_keepRegister id (f_Sta_read (1 : Int32) sp) g), sp) := by unfold f_Ctl_movePrivileged; rw [if_pos h1]
    exact k_vret hx hb hr hlocks hK hP hD hS [0, 1, 2, 3, 4] rfl (by rw [ef] <;> rfl) d_Ctl_movePrivileged_136
  · by_cases h2 : ii = (146 : Int32)
    · refine lv_lookup (off := 55) (tgt := 70) hx hb d_Ctl_movePrivileged_15 (by decide) (by have hq9 := h2 <;> rw [hq9] <;> rfl) (by decide) ?_
      refine lv_aload_n hx hb d_Ctl_movePrivileged_70 rfl (lv_at hl 1 rfl) ?_
      refine va_get (D := D) (ci := 4) (v := .ref aS) (C := "MappedProcessor$Control") (T := T_Ctl) (N := 1) hx hb hB iw_Ctl hown hK hP 4 rfl rfl 0 (by decide) (hB _ mw_189) (fun _ h9 => h9) rfl d_Ctl_movePrivileged_71 ?_
      refine lv_iconst (v := (1 : Int32)) hx hb d_Ctl_movePrivileged_74 (by decide) ?_
      refine lv_aload_n hx hb d_Ctl_movePrivileged_75 rfl (lv_at hl 1 rfl) ?_
      refine va_get (D := D) (ci := 4) (v := .ref aS) (C := "MappedProcessor$Control") (T := T_Ctl) (N := 1) hx hb hB iw_Ctl hown hK hP 4 rfl rfl 0 (by decide) (hB _ mw_189) (fun _ h9 => h9) rfl d_Ctl_movePrivileged_76 ?_
      refine lv_aload_n hx hb d_Ctl_movePrivileged_79 rfl (lv_at hl 2 rfl) ?_
      refine va_get (D := D) (ci := 5) (v := .int id) (C := "MappedProcessor$Instruction") (T := T_Ins) (N := 8) hx hb hB iw_Ins hown hK hP 3 rfl rfl 2 (by decide) (hB _ mw_95) (fun _ h9 => h9) rfl d_Ctl_movePrivileged_80 ?_
      refine k_cVi (As := [.int id]) (rest := [.int (1 : Int32), .ref aS]) (wr := [(aI, .inr (5, [.int iw, .int io, .int id, .int ia, .int ib, .int ii, .int is, .int iu])), (aK, .inr (4, [.ref aS]))]) (wj := [(aS, .inr (9, [.ref aG, .ref aX, .int nx, .int lt, .int sm, .int ex])), (aG, .inl (cG, 32, .inl g)), (aX, .inl (cX, 64, .inl sp)), (aI, .inr (5, [.int iw, .int io, .int id, .int ia, .int ib, .int ii, .int is, .int iu])), (aK, .inr (4, [.ref aS]))]) ⟨hx, hb, hml, hown, hB⟩ (c_Sta_register l D aS aG aX cG cX g sp nx lt sm ex id) yl_Sta_register mw_541 hK hN hP hD hS hA [0, 1] [0, 1, 2] [3, 4] [2, 3, 4, 0, 1] rfl rfl rfl rfl (by decide +kernel) 0 rfl rfl rfl rfl hl.1 rfl (Nat.le_of_ble_eq_true rfl) ⟨Nat.le_of_ble_eq_true rfl, Nat.le_of_ble_eq_true rfl⟩ d_Ctl_movePrivileged_83 ⟨Nat.le_of_ble_eq_true rfl, Nat.le_of_ble_eq_true rfl⟩ (fun H locs hP hD hS => ?_)
      refine lv_ldc (v := (65535 : Int32)) hx hb hown (hB _ mw_555) d_Ctl_movePrivileged_86 ?_
      refine lv_iand hx hb d_Ctl_movePrivileged_88 ?_
      refine k_cVv (As := [.int (1 : Int32), .int ((f_Sta_register id g) &&& (65535 : Int32))]) (rest := []) (wr := [(aI, .inr (5, [.int iw, .int io, .int id, .int ia, .int ib, .int ii, .int is, .int iu])), (aK, .inr (4, [.ref aS]))]) (wj := [(aS, .inr (9, [.ref aG, .ref aX, .int nx, .int lt, .int sm, .int ex])), (aG, .inl (cG, 32, .inl g)), (aX, .inl (cX, 64, .inl (f_Sta_keep (1 : Int32) ((f_Sta_register id g) &&& (65535 : Int32)) sp))), (aI, .inr (5, [.int iw, .int io, .int id, .int ia, .int ib, .int ii, .int is, .int iu])), (aK, .inr (4, [.ref aS]))]) ⟨hx, hb, hml, hown, hB⟩ (c_Sta_keep l D aS aG aX cG cX g sp nx lt sm ex (1 : Int32) ((f_Sta_register id g) &&& (65535 : Int32))) yl_Sta_keep mw_542 hK hN hP hD hS hA [0, 1] [0, 1, 2] [3, 4] [2, 3, 4, 0, 1] rfl rfl rfl rfl (by decide +kernel) 0 rfl rfl rfl rfl hl.1 rfl (Nat.le_of_ble_eq_true rfl) ⟨Nat.le_of_ble_eq_true rfl, Nat.le_of_ble_eq_true rfl⟩ d_Ctl_movePrivileged_89 ⟨Nat.le_of_ble_eq_true rfl, Nat.le_of_ble_eq_true rfl⟩ (fun H locs hP hD hS => ?_)
      refine lv_goto (tgt := 136) hx hb d_Ctl_movePrivileged_92 (by decide) ?_
      have ef : f_Ctl_movePrivileged g sp id ia ii = (g, (f_Sta_keep (1 : Int32) ((f_Sta_register id g) &&& (65535 : Int32)) sp)) := by unfold f_Ctl_movePrivileged; rw [if_neg h1, if_pos h2]
      exact k_vret hx hb hr hlocks hK hP hD hS [0, 1, 2, 3, 4] rfl (by rw [ef] <;> rfl) d_Ctl_movePrivileged_136
    · by_cases h3 : ii = (210 : Int32)
      · refine lv_lookup (off := 80) (tgt := 95) hx hb d_Ctl_movePrivileged_15 (by decide) (by have hq9 := h3 <;> rw [hq9] <;> rfl) (by decide) ?_
        refine lv_aload_n hx hb d_Ctl_movePrivileged_95 rfl (lv_at hl 1 rfl) ?_
        refine va_get (D := D) (ci := 4) (v := .ref aS) (C := "MappedProcessor$Control") (T := T_Ctl) (N := 1) hx hb hB iw_Ctl hown hK hP 4 rfl rfl 0 (by decide) (hB _ mw_189) (fun _ h9 => h9) rfl d_Ctl_movePrivileged_96 ?_
        refine lv_iload_n hx hb d_Ctl_movePrivileged_99 rfl (lv_at hl 0 rfl) ?_
        refine lv_aload_n hx hb d_Ctl_movePrivileged_100 rfl (lv_at hl 1 rfl) ?_
        refine va_get (D := D) (ci := 4) (v := .ref aS) (C := "MappedProcessor$Control") (T := T_Ctl) (N := 1) hx hb hB iw_Ctl hown hK hP 4 rfl rfl 0 (by decide) (hB _ mw_189) (fun _ h9 => h9) rfl d_Ctl_movePrivileged_101 ?_
        refine lv_aload_n hx hb d_Ctl_movePrivileged_104 rfl (lv_at hl 2 rfl) ?_
        refine va_get (D := D) (ci := 5) (v := .int id) (C := "MappedProcessor$Instruction") (T := T_Ins) (N := 8) hx hb hB iw_Ins hown hK hP 3 rfl rfl 2 (by decide) (hB _ mw_95) (fun _ h9 => h9) rfl d_Ctl_movePrivileged_105 ?_
        refine k_cVi (As := [.int id]) (rest := [.int ((32 : Int32) + (ia &&& (15 : Int32))), .ref aS]) (wr := [(aI, .inr (5, [.int iw, .int io, .int id, .int ia, .int ib, .int ii, .int is, .int iu])), (aK, .inr (4, [.ref aS]))]) (wj := [(aS, .inr (9, [.ref aG, .ref aX, .int nx, .int lt, .int sm, .int ex])), (aG, .inl (cG, 32, .inl g)), (aX, .inl (cX, 64, .inl sp)), (aI, .inr (5, [.int iw, .int io, .int id, .int ia, .int ib, .int ii, .int is, .int iu])), (aK, .inr (4, [.ref aS]))]) ⟨hx, hb, hml, hown, hB⟩ (c_Sta_register l D aS aG aX cG cX g sp nx lt sm ex id) yl_Sta_register mw_541 hK hN hP hD hS hA [0, 1] [0, 1, 2] [3, 4] [2, 3, 4, 0, 1] rfl rfl rfl rfl (by decide +kernel) 0 rfl rfl rfl rfl hl.1 rfl (Nat.le_of_ble_eq_true rfl) ⟨Nat.le_of_ble_eq_true rfl, Nat.le_of_ble_eq_true rfl⟩ d_Ctl_movePrivileged_108 ⟨Nat.le_of_ble_eq_true rfl, Nat.le_of_ble_eq_true rfl⟩ (fun H locs hP hD hS => ?_)
        refine k_cVv (As := [.int ((32 : Int32) + (ia &&& (15 : Int32))), .int (f_Sta_register id g)]) (rest := []) (wr := [(aI, .inr (5, [.int iw, .int io, .int id, .int ia, .int ib, .int ii, .int is, .int iu])), (aK, .inr (4, [.ref aS]))]) (wj := [(aS, .inr (9, [.ref aG, .ref aX, .int nx, .int lt, .int sm, .int ex])), (aG, .inl (cG, 32, .inl g)), (aX, .inl (cX, 64, .inl (f_Sta_keep ((32 : Int32) + (ia &&& (15 : Int32))) (f_Sta_register id g) sp))), (aI, .inr (5, [.int iw, .int io, .int id, .int ia, .int ib, .int ii, .int is, .int iu])), (aK, .inr (4, [.ref aS]))]) ⟨hx, hb, hml, hown, hB⟩ (c_Sta_keep l D aS aG aX cG cX g sp nx lt sm ex ((32 : Int32) + (ia &&& (15 : Int32))) (f_Sta_register id g)) yl_Sta_keep mw_542 hK hN hP hD hS hA [0, 1] [0, 1, 2] [3, 4] [2, 3, 4, 0, 1] rfl rfl rfl rfl (by decide +kernel) 0 rfl rfl rfl rfl hl.1 rfl (Nat.le_of_ble_eq_true rfl) ⟨Nat.le_of_ble_eq_true rfl, Nat.le_of_ble_eq_true rfl⟩ d_Ctl_movePrivileged_111 ⟨Nat.le_of_ble_eq_true rfl, Nat.le_of_ble_eq_true rfl⟩ (fun H locs hP hD hS => ?_)
        refine lv_goto (tgt := 136) hx hb d_Ctl_movePrivileged_114 (by decide) ?_
        have ef : f_Ctl_movePrivileged g sp id ia ii = (g, (f_Sta_keep ((32 : Int32) + (ia &&& (15 : Int32))) (f_Sta_register id g) sp)) := by unfold f_Ctl_movePrivileged; rw [if_neg h1, if_neg h2, if_pos h3]
        exact k_vret hx hb hr hlocks hK hP hD hS [0, 1, 2, 3, 4] rfl (by rw [ef] <;> rfl) d_Ctl_movePrivileged_136
      · refine lv_lookup (off := 102) (tgt := 117) hx hb d_Ctl_movePrivileged_15 (by decide) (by rw [lv_osw (k := (83 : Int32)) h1 (by decide), lv_osw (k := (146 : Int32)) h2 (by decide), lv_osw (k := (210 : Int32)) h3 (by decide)]; rfl) (by decide) ?_
        refine lv_aload_n hx hb d_Ctl_movePrivileged_117 rfl (lv_at hl 1 rfl) ?_
        refine va_get (D := D) (ci := 4) (v := .ref aS) (C := "MappedProcessor$Control") (T := T_Ctl) (N := 1) hx hb hB iw_Ctl hown hK hP 4 rfl rfl 0 (by decide) (hB _ mw_189) (fun _ h9 => h9) rfl d_Ctl_movePrivileged_118 ?_
        refine lv_aload_n hx hb d_Ctl_movePrivileged_121 rfl (lv_at hl 2 rfl) ?_
        refine va_get (D := D) (ci := 5) (v := .int id) (C := "MappedProcessor$Instruction") (T := T_Ins) (N := 8) hx hb hB iw_Ins hown hK hP 3 rfl rfl 2 (by decide) (hB _ mw_95) (fun _ h9 => h9) rfl d_Ctl_movePrivileged_122 ?_
        refine lv_aload_n hx hb d_Ctl_movePrivileged_125 rfl (lv_at hl 1 rfl) ?_
        refine va_get (D := D) (ci := 4) (v := .ref aS) (C := "MappedProcessor$Control") (T := T_Ctl) (N := 1) hx hb hB iw_Ctl hown hK hP 4 rfl rfl 0 (by decide) (hB _ mw_189) (fun _ h9 => h9) rfl d_Ctl_movePrivileged_126 ?_
        refine lv_iload_n hx hb d_Ctl_movePrivileged_129 rfl (lv_at hl 0 rfl) ?_
        refine k_cVi (As := [.int ((32 : Int32) + (ia &&& (15 : Int32)))]) (rest := [.int id, .ref aS]) (wr := [(aI, .inr (5, [.int iw, .int io, .int id, .int ia, .int ib, .int ii, .int is, .int iu])), (aK, .inr (4, [.ref aS]))]) (wj := [(aS, .inr (9, [.ref aG, .ref aX, .int nx, .int lt, .int sm, .int ex])), (aG, .inl (cG, 32, .inl g)), (aX, .inl (cX, 64, .inl sp)), (aI, .inr (5, [.int iw, .int io, .int id, .int ia, .int ib, .int ii, .int is, .int iu])), (aK, .inr (4, [.ref aS]))]) ⟨hx, hb, hml, hown, hB⟩ (c_Sta_read l D aS aG aX cG cX g sp nx lt sm ex ((32 : Int32) + (ia &&& (15 : Int32)))) yl_Sta_read mw_534 hK hN hP hD hS hA [0, 1] [0, 1, 2] [3, 4] [2, 3, 4, 0, 1] rfl rfl rfl rfl (by decide +kernel) 0 rfl rfl rfl rfl hl.1 rfl (Nat.le_of_ble_eq_true rfl) ⟨Nat.le_of_ble_eq_true rfl, Nat.le_of_ble_eq_true rfl⟩ d_Ctl_movePrivileged_130 ⟨Nat.le_of_ble_eq_true rfl, Nat.le_of_ble_eq_true rfl⟩ (fun H locs hP hD hS => ?_)
        refine k_cVv (As := [.int id, .int (f_Sta_read ((32 : Int32) + (ia &&& (15 : Int32))) sp)]) (rest := []) (wr := [(aI, .inr (5, [.int iw, .int io, .int id, .int ia, .int ib, .int ii, .int is, .int iu])), (aK, .inr (4, [.ref aS]))]) (wj := [(aS, .inr (9, [.ref aG, .ref aX, .int nx, .int lt, .int sm, .int ex])), (aG, .inl (cG, 32, .inl (f_Sta_keepRegister id (f_Sta_read ((32 : Int32) + (ia &&& (15 : Int32))) sp) g))), (aX, .inl (cX, 64, .inl sp)), (aI, .inr (5, [.int iw, .int io, .int id, .int ia, .int ib, .int ii, .int is, .int iu])), (aK, .inr (4, [.ref aS]))]) ⟨hx, hb, hml, hown, hB⟩ (c_Sta_keepRegister l D aS aG aX cG cX g sp nx lt sm ex id (f_Sta_read ((32 : Int32) + (ia &&& (15 : Int32))) sp)) yl_Sta_keepRegister mw_535 hK hN hP hD hS hA [0, 1] [0, 1, 2] [3, 4] [2, 3, 4, 0, 1] rfl rfl rfl rfl (by decide +kernel) 0 rfl rfl rfl rfl hl.1 rfl (Nat.le_of_ble_eq_true rfl) ⟨Nat.le_of_ble_eq_true rfl, Nat.le_of_ble_eq_true rfl⟩ d_Ctl_movePrivileged_133 ⟨Nat.le_of_ble_eq_true rfl, Nat.le_of_ble_eq_true rfl⟩ (fun H locs hP hD hS => ?_)
        have ef : f_Ctl_movePrivileged g sp id ia ii = ((f_Sta_keepRegister id (f_Sta_read ((32 : Int32) + (ia &&& (15 : Int32))) sp) g), sp) := by unfold f_Ctl_movePrivileged; rw [if_neg h1, if_neg h2, if_neg h3]
        exact k_vret hx hb hr hlocks hK hP hD hS [0, 1, 2, 3, 4] rfl (by rw [ef] <;> rfl) d_Ctl_movePrivileged_136
/-! MappedProcessor$Control.runs(LMappedProcessor$Instruction;)Z -/
theorem d_Ctl_runs_0 : decode b_Ctl_runs 0 = .ok (.aload_n 1, 1) := by decide +kernel
theorem d_Ctl_runs_1 : decode b_Ctl_runs 1 = .ok (.getfield 15, 3) := by decide +kernel
theorem d_Ctl_runs_4 : decode b_Ctl_runs 4 = .ok (.lookupswitch 137 #[(19, 84), (83, 120), (144, 105), (146, 120), (210, 120), (339, 112), (467, 112), (595, 120), (598, 118)], 84) := by decide +kernel
theorem d_Ctl_runs_88 : decode b_Ctl_runs 88 = .ok (.aload_n 0, 1) := by decide +kernel
theorem d_Ctl_runs_89 : decode b_Ctl_runs 89 = .ok (.getfield 9, 3) := by decide +kernel
theorem d_Ctl_runs_92 : decode b_Ctl_runs 92 = .ok (.aload_n 1, 1) := by decide +kernel
theorem d_Ctl_runs_93 : decode b_Ctl_runs 93 = .ok (.getfield 21, 3) := by decide +kernel
theorem d_Ctl_runs_96 : decode b_Ctl_runs 96 = .ok (.aload_n 0, 1) := by decide +kernel
theorem d_Ctl_runs_97 : decode b_Ctl_runs 97 = .ok (.getfield 9, 3) := by decide +kernel
theorem d_Ctl_runs_100 : decode b_Ctl_runs 100 = .ok (.iconst 2, 1) := by decide +kernel
theorem d_Ctl_runs_101 : decode b_Ctl_runs 101 = .ok (.invokevirtual 24, 3) := by decide +kernel
theorem d_Ctl_runs_104 : decode b_Ctl_runs 104 = .ok (.invokevirtual 30, 3) := by decide +kernel
theorem d_Ctl_runs_107 : decode b_Ctl_runs 107 = .ok (.iconst 1, 1) := by decide +kernel
theorem d_Ctl_runs_108 : decode b_Ctl_runs 108 = .ok (.ireturn, 1) := by decide +kernel
theorem d_Ctl_runs_109 : decode b_Ctl_runs 109 = .ok (.aload_n 0, 1) := by decide +kernel
theorem d_Ctl_runs_110 : decode b_Ctl_runs 110 = .ok (.aload_n 1, 1) := by decide +kernel
theorem d_Ctl_runs_111 : decode b_Ctl_runs 111 = .ok (.invokevirtual 34, 3) := by decide +kernel
theorem d_Ctl_runs_114 : decode b_Ctl_runs 114 = .ok (.iconst 1, 1) := by decide +kernel
theorem d_Ctl_runs_115 : decode b_Ctl_runs 115 = .ok (.ireturn, 1) := by decide +kernel
theorem d_Ctl_runs_116 : decode b_Ctl_runs 116 = .ok (.aload_n 0, 1) := by decide +kernel
theorem d_Ctl_runs_117 : decode b_Ctl_runs 117 = .ok (.aload_n 1, 1) := by decide +kernel
theorem d_Ctl_runs_118 : decode b_Ctl_runs 118 = .ok (.invokevirtual 38, 3) := by decide +kernel
theorem d_Ctl_runs_121 : decode b_Ctl_runs 121 = .ok (.ireturn, 1) := by decide +kernel
theorem d_Ctl_runs_122 : decode b_Ctl_runs 122 = .ok (.iconst 1, 1) := by decide +kernel
theorem d_Ctl_runs_123 : decode b_Ctl_runs 123 = .ok (.ireturn, 1) := by decide +kernel
theorem d_Ctl_runs_124 : decode b_Ctl_runs 124 = .ok (.aload_n 0, 1) := by decide +kernel
theorem d_Ctl_runs_125 : decode b_Ctl_runs 125 = .ok (.getfield 9, 3) := by decide +kernel
theorem d_Ctl_runs_128 : decode b_Ctl_runs 128 = .ok (.invokevirtual 42, 3) := by decide +kernel
theorem d_Ctl_runs_131 : decode b_Ctl_runs 131 = .ok (.ifCond .ne 8, 3) := by decide +kernel
theorem d_Ctl_runs_134 : decode b_Ctl_runs 134 = .ok (.aload_n 0, 1) := by decide +kernel
theorem d_Ctl_runs_135 : decode b_Ctl_runs 135 = .ok (.aload_n 1, 1) := by decide +kernel
theorem d_Ctl_runs_136 : decode b_Ctl_runs 136 = .ok (.invokevirtual 46, 3) := by decide +kernel
theorem d_Ctl_runs_139 : decode b_Ctl_runs 139 = .ok (.iconst 1, 1) := by decide +kernel
theorem d_Ctl_runs_140 : decode b_Ctl_runs 140 = .ok (.ireturn, 1) := by decide +kernel
theorem d_Ctl_runs_141 : decode b_Ctl_runs 141 = .ok (.iconst 0, 1) := by decide +kernel
theorem d_Ctl_runs_142 : decode b_Ctl_runs 142 = .ok (.ireturn, 1) := by decide +kernel
def f_Ctl_runs (g : Nat → Int32) (sp : Nat → Int32) (nx : Int32) (lt : Int32) (ex : Int32) (iw : Int32) (id : Int32) (ia : Int32) (ib : Int32) (ii : Int32) : Int32 × (Nat → Int32) × (Nat → Int32) × Int32 × Int32 × Int32 :=
  if ii = (19 : Int32) then
    ((1 : Int32), (f_Sta_keepRegister id (f_Sta_read (2 : Int32) sp) g), sp, nx, lt, ex)
  else
    if ii = (83 : Int32) ∨ ii = (146 : Int32) ∨ ii = (210 : Int32) ∨ ii = (595 : Int32) then
      let t3 := (f_Sta_refusesPrivileged sp nx lt ex)
      if t3.1 = (0 : Int32) then
        let t8 := (f_Ctl_movePrivileged g t3.2.1 id ia ii)
        ((1 : Int32), t8.1, t8.2, t3.2.2.1, t3.2.2.2.1, t3.2.2.2.2)
      else
        ((1 : Int32), g, t3.2.1, t3.2.2.1, t3.2.2.2.1, t3.2.2.2.2)
    else
      if ii = (144 : Int32) then
        ((1 : Int32), g, (f_Ctl_keepFields g sp iw id), nx, lt, ex)
      else
        if ii = (339 : Int32) ∨ ii = (467 : Int32) then
          let t11 := (f_Ctl_movesSpecial g sp nx lt ex id ia ib ii)
          (t11.1, t11.2.1, t11.2.2.1, t11.2.2.2.1, t11.2.2.2.2.1, t11.2.2.2.2.2)
        else
          if ii = (598 : Int32) then
            ((1 : Int32), g, sp, nx, lt, ex)
          else
            ((0 : Int32), g, sp, nx, lt, ex)
set_option maxHeartbeats 4000000 in
set_option maxRecDepth 100000 in
theorem ib_Ctl_runs (g : Nat → Int32) (sp : Nat → Int32) (nx : Int32) (lt : Int32) (ex : Int32) (iw : Int32) (id : Int32) (ia : Int32) (ib : Int32) (ii : Int32) : isB (f_Ctl_runs g sp nx lt ex iw id ia ib ii).1 := by
  unfold f_Ctl_runs
  try dsimp only
  repeat' (first | refine ib_ite ?_ ?_ | refine ib_ite0 ?_ ?_ | with_reducible exact ib0 | with_reducible exact ib1 | with_reducible exact ib_Ctl_movesSpecial _ _ _ _ _ _ _ _ _ | with_reducible exact ib_Sta_refusesPrivileged _ _ _ _ | (dsimp only; first | exact ib0 | exact ib1))
theorem nb_Ctl_runs (g : Nat → Int32) (sp : Nat → Int32) (nx : Int32) (lt : Int32) (ex : Int32) (iw : Int32) (id : Int32) (ia : Int32) (ib : Int32) (ii : Int32) : narrow .boolean (.int (f_Ctl_runs g sp nx lt ex iw id ia ib ii).1) = .int (f_Ctl_runs g sp nx lt ex iw id ia ib ii).1 := nb_of (ib_Ctl_runs g sp nx lt ex iw id ia ib ii)
set_option maxHeartbeats 4000000 in
set_option maxRecDepth 100000 in
theorem c_Ctl_runs (l : Launch) (D : va_G) (aS aG aX aI aK : Nat) (cG cX : ClassId) (g : Nat → Int32) (sp : Nat → Int32) (nx : Int32) (lt : Int32) (sm : Int32) (ex : Int32) (iw : Int32) (io : Int32) (id : Int32) (ia : Int32) (ib : Int32) (ii : Int32) (is : Int32) (iu : Int32) (_q0 : Nat) : kMi l y_Ctl_runs b_Ctl_runs 2 (some .boolean) 3 65 D kCl [(cG, .int), (cX, .int)] [.ref aK, .ref aI] [(aS, .inr (9, [.ref aG, .ref aX, .int nx, .int lt, .int sm, .int ex])), (aG, .inl (cG, 32, .inl g)), (aX, .inl (cX, 64, .inl sp)), (aI, .inr (5, [.int iw, .int io, .int id, .int ia, .int ib, .int ii, .int is, .int iu])), (aK, .inr (4, [.ref aS]))] (f_Ctl_runs g sp nx lt ex iw id ia ib ii).1 [(aS, .inr (9, [.ref aG, .ref aX, .int (f_Ctl_runs g sp nx lt ex iw id ia ib ii).2.2.2.1, .int (f_Ctl_runs g sp nx lt ex iw id ia ib ii).2.2.2.2.1, .int sm, .int (f_Ctl_runs g sp nx lt ex iw id ia ib ii).2.2.2.2.2])), (aG, .inl (cG, 32, .inl (f_Ctl_runs g sp nx lt ex iw id ia ib ii).2.1)), (aX, .inl (cX, 64, .inl (f_Ctl_runs g sp nx lt ex iw id ia ib ii).2.2.1)), (aI, .inr (5, [.int iw, .int io, .int id, .int ia, .int ib, .int ii, .int is, .int iu])), (aK, .inr (4, [.ref aS]))] := by
  refine k_entry (Qc := fun A => kQi D kCl [(cG, .int), (cX, .int)] (f_Ctl_runs g sp nx lt ex iw id ia ib ii).1 [(aS, .inr (9, [.ref aG, .ref aX, .int (f_Ctl_runs g sp nx lt ex iw id ia ib ii).2.2.2.1, .int (f_Ctl_runs g sp nx lt ex iw id ia ib ii).2.2.2.2.1, .int sm, .int (f_Ctl_runs g sp nx lt ex iw id ia ib ii).2.2.2.2.2])), (aG, .inl (cG, 32, .inl (f_Ctl_runs g sp nx lt ex iw id ia ib ii).2.1)), (aX, .inl (cX, 64, .inl (f_Ctl_runs g sp nx lt ex iw id ia ib ii).2.2.1)), (aI, .inr (5, [.int iw, .int io, .int id, .int ia, .int ib, .int ii, .int is, .int iu])), (aK, .inr (4, [.ref aS]))] A) (lv := [(0, .ref aK), (1, .ref aI)]) (by decide) (Nat.le_of_ble_eq_true rfl) rfl ?_
  intro p e s m below meth c A ls hx hb hr hml hB hown hlocks hin hA hK hN hP hD hS hl
  have hown : s.vm.findClass "MappedProcessor$Control" = some m.cls := hown
  refine lv_aload_n hx hb d_Ctl_runs_0 rfl (lv_at hl 1 rfl) ?_
  refine va_get (D := D) (ci := 5) (v := .int ii) (C := "MappedProcessor$Instruction") (T := T_Ins) (N := 8) hx hb hB iw_Ins hown hK hP 3 rfl rfl 5 (by decide) (hB _ mw_111) (fun _ h9 => h9) rfl d_Ctl_runs_1 ?_
  by_cases h1 : ii = (19 : Int32)
  · refine lv_lookup (off := 84) (tgt := 88) hx hb d_Ctl_runs_4 (by decide) (by have hq9 := h1 <;> rw [hq9] <;> rfl) (by decide) ?_
    refine lv_aload_n hx hb d_Ctl_runs_88 rfl (lv_at hl 0 rfl) ?_
    refine va_get (D := D) (ci := 4) (v := .ref aS) (C := "MappedProcessor$Control") (T := T_Ctl) (N := 1) hx hb hB iw_Ctl hown hK hP 4 rfl rfl 0 (by decide) (hB _ mw_189) (fun _ h9 => h9) rfl d_Ctl_runs_89 ?_
    refine lv_aload_n hx hb d_Ctl_runs_92 rfl (lv_at hl 1 rfl) ?_
    refine va_get (D := D) (ci := 5) (v := .int id) (C := "MappedProcessor$Instruction") (T := T_Ins) (N := 8) hx hb hB iw_Ins hown hK hP 3 rfl rfl 2 (by decide) (hB _ mw_95) (fun _ h9 => h9) rfl d_Ctl_runs_93 ?_
    refine lv_aload_n hx hb d_Ctl_runs_96 rfl (lv_at hl 0 rfl) ?_
    refine va_get (D := D) (ci := 4) (v := .ref aS) (C := "MappedProcessor$Control") (T := T_Ctl) (N := 1) hx hb hB iw_Ctl hown hK hP 4 rfl rfl 0 (by decide) (hB _ mw_189) (fun _ h9 => h9) rfl d_Ctl_runs_97 ?_
    refine lv_iconst (v := (2 : Int32)) hx hb d_Ctl_runs_100 (by decide) ?_
    refine k_cVi (As := [.int (2 : Int32)]) (rest := [.int id, .ref aS]) (wr := [(aI, .inr (5, [.int iw, .int io, .int id, .int ia, .int ib, .int ii, .int is, .int iu])), (aK, .inr (4, [.ref aS]))]) (wj := [(aS, .inr (9, [.ref aG, .ref aX, .int nx, .int lt, .int sm, .int ex])), (aG, .inl (cG, 32, .inl g)), (aX, .inl (cX, 64, .inl sp)), (aI, .inr (5, [.int iw, .int io, .int id, .int ia, .int ib, .int ii, .int is, .int iu])), (aK, .inr (4, [.ref aS]))]) ⟨hx, hb, hml, hown, hB⟩ (c_Sta_read l D aS aG aX cG cX g sp nx lt sm ex (2 : Int32)) yl_Sta_read mw_534 hK hN hP hD hS hA [0, 1] [0, 1, 2] [3, 4] [2, 3, 4, 0, 1] rfl rfl rfl rfl (by decide +kernel) 0 rfl rfl rfl rfl hl.1 rfl (Nat.le_of_ble_eq_true rfl) ⟨Nat.le_of_ble_eq_true rfl, Nat.le_of_ble_eq_true rfl⟩ d_Ctl_runs_101 ⟨Nat.le_of_ble_eq_true rfl, Nat.le_of_ble_eq_true rfl⟩ (fun H locs hP hD hS => ?_)
    refine k_cVv (As := [.int id, .int (f_Sta_read (2 : Int32) sp)]) (rest := []) (wr := [(aI, .inr (5, [.int iw, .int io, .int id, .int ia, .int ib, .int ii, .int is, .int iu])), (aK, .inr (4, [.ref aS]))]) (wj := [(aS, .inr (9, [.ref aG, .ref aX, .int nx, .int lt, .int sm, .int ex])), (aG, .inl (cG, 32, .inl (f_Sta_keepRegister id (f_Sta_read (2 : Int32) sp) g))), (aX, .inl (cX, 64, .inl sp)), (aI, .inr (5, [.int iw, .int io, .int id, .int ia, .int ib, .int ii, .int is, .int iu])), (aK, .inr (4, [.ref aS]))]) ⟨hx, hb, hml, hown, hB⟩ (c_Sta_keepRegister l D aS aG aX cG cX g sp nx lt sm ex id (f_Sta_read (2 : Int32) sp)) yl_Sta_keepRegister mw_535 hK hN hP hD hS hA [0, 1] [0, 1, 2] [3, 4] [2, 3, 4, 0, 1] rfl rfl rfl rfl (by decide +kernel) 0 rfl rfl rfl rfl hl.1 rfl (Nat.le_of_ble_eq_true rfl) ⟨Nat.le_of_ble_eq_true rfl, Nat.le_of_ble_eq_true rfl⟩ d_Ctl_runs_104 ⟨Nat.le_of_ble_eq_true rfl, Nat.le_of_ble_eq_true rfl⟩ (fun H locs hP hD hS => ?_)
    refine lv_iconst (v := (1 : Int32)) hx hb d_Ctl_runs_107 (by decide) ?_
    have ef : f_Ctl_runs g sp nx lt ex iw id ia ib ii = ((1 : Int32), (f_Sta_keepRegister id (f_Sta_read (2 : Int32) sp) g), sp, nx, lt, ex) := by unfold f_Ctl_runs; try dsimp only; rw [if_pos h1]
    exact k_zret hx hb hr hlocks hK hP hD hS [0, 1, 2, 3, 4] rfl (by rw [ef] <;> rfl) (by rw [ef] <;> rfl) nb1 d_Ctl_runs_108
  · by_cases h2 : ii = (83 : Int32) ∨ ii = (146 : Int32) ∨ ii = (210 : Int32) ∨ ii = (595 : Int32)
    · refine lv_lookup (off := 120) (tgt := 124) hx hb d_Ctl_runs_4 (by decide) (by rcases h2 with hq9 | hq9 | hq9 | hq9 <;> rw [hq9] <;> rfl) (by decide) ?_
      refine lv_aload_n hx hb d_Ctl_runs_124 rfl (lv_at hl 0 rfl) ?_
      refine va_get (D := D) (ci := 4) (v := .ref aS) (C := "MappedProcessor$Control") (T := T_Ctl) (N := 1) hx hb hB iw_Ctl hown hK hP 4 rfl rfl 0 (by decide) (hB _ mw_189) (fun _ h9 => h9) rfl d_Ctl_runs_125 ?_
      let t3 := (f_Sta_refusesPrivileged sp nx lt ex)
      refine k_cVi (As := []) (rest := []) (wr := [(aI, .inr (5, [.int iw, .int io, .int id, .int ia, .int ib, .int ii, .int is, .int iu])), (aK, .inr (4, [.ref aS]))]) (wj := [(aS, .inr (9, [.ref aG, .ref aX, .int t3.2.2.1, .int t3.2.2.2.1, .int sm, .int t3.2.2.2.2])), (aG, .inl (cG, 32, .inl g)), (aX, .inl (cX, 64, .inl t3.2.1)), (aI, .inr (5, [.int iw, .int io, .int id, .int ia, .int ib, .int ii, .int is, .int iu])), (aK, .inr (4, [.ref aS]))]) ⟨hx, hb, hml, hown, hB⟩ (c_Sta_refusesPrivileged l D aS aG aX cG cX g sp nx lt sm ex) yl_Sta_refusesPrivileged mw_550 hK hN hP hD hS hA [0, 1] [0, 1, 2] [3, 4] [2, 3, 4, 0, 1] rfl rfl rfl rfl (by decide +kernel) 0 rfl rfl rfl rfl hl.1 rfl (Nat.le_of_ble_eq_true rfl) ⟨Nat.le_of_ble_eq_true rfl, Nat.le_of_ble_eq_true rfl⟩ d_Ctl_runs_128 ⟨Nat.le_of_ble_eq_true rfl, Nat.le_of_ble_eq_true rfl⟩ (fun H locs hP hD hS => ?_)
      refine lv_if_ne (tgt := 139) hx hb d_Ctl_runs_131 (by decide) (fun (h7 : ¬ t3.1 = (0 : Int32)) => ?_) (fun (h7 : t3.1 = (0 : Int32)) => ?_)
      · refine lv_iconst (v := (1 : Int32)) hx hb d_Ctl_runs_139 (by decide) ?_
        have ef : f_Ctl_runs g sp nx lt ex iw id ia ib ii = ((1 : Int32), g, t3.2.1, t3.2.2.1, t3.2.2.2.1, t3.2.2.2.2) := by unfold f_Ctl_runs; try dsimp only; rw [if_neg h1, if_pos h2, if_neg h7]
        exact k_zret hx hb hr hlocks hK hP hD hS [0, 1, 2, 3, 4] rfl (by rw [ef] <;> rfl) (by rw [ef] <;> rfl) nb1 d_Ctl_runs_140
      · refine lv_aload_n hx hb d_Ctl_runs_134 rfl (lv_at hl 0 rfl) ?_
        refine lv_aload_n hx hb d_Ctl_runs_135 rfl (lv_at hl 1 rfl) ?_
        let t8 := (f_Ctl_movePrivileged g t3.2.1 id ia ii)
        refine k_cVv (As := [.ref aI]) (rest := []) (wr := []) (wj := [(aS, .inr (9, [.ref aG, .ref aX, .int t3.2.2.1, .int t3.2.2.2.1, .int sm, .int t3.2.2.2.2])), (aG, .inl (cG, 32, .inl t8.1)), (aX, .inl (cX, 64, .inl t8.2)), (aI, .inr (5, [.int iw, .int io, .int id, .int ia, .int ib, .int ii, .int is, .int iu])), (aK, .inr (4, [.ref aS]))]) ⟨hx, hb, hml, hown, hB⟩ (c_Ctl_movePrivileged l D aS aG aX aI aK cG cX g t3.2.1 t3.2.2.1 t3.2.2.2.1 sm t3.2.2.2.2 iw io id ia ib ii is iu aI) yl_Ctl_movePrivileged mw_551 hK hN hP hD hS hA [0, 1] [0, 1, 2, 3, 4] [] [0, 1, 2, 3, 4] rfl rfl rfl rfl (by decide +kernel) 4 rfl rfl rfl rfl hl.1 rfl (Nat.le_of_ble_eq_true rfl) ⟨Nat.le_of_ble_eq_true rfl, Nat.le_of_ble_eq_true rfl⟩ d_Ctl_runs_136 ⟨Nat.le_of_ble_eq_true rfl, Nat.le_of_ble_eq_true rfl⟩ (fun H locs hP hD hS => ?_)
        refine lv_iconst (v := (1 : Int32)) hx hb d_Ctl_runs_139 (by decide) ?_
        have ef : f_Ctl_runs g sp nx lt ex iw id ia ib ii = ((1 : Int32), t8.1, t8.2, t3.2.2.1, t3.2.2.2.1, t3.2.2.2.2) := by unfold f_Ctl_runs; try dsimp only; rw [if_neg h1, if_pos h2, if_pos h7]
        exact k_zret hx hb hr hlocks hK hP hD hS [0, 1, 2, 3, 4] rfl (by rw [ef] <;> rfl) (by rw [ef] <;> rfl) nb1 d_Ctl_runs_140
    · by_cases h9 : ii = (144 : Int32)
      · refine lv_lookup (off := 105) (tgt := 109) hx hb d_Ctl_runs_4 (by decide) (by have hq9 := h9 <;> rw [hq9] <;> rfl) (by decide) ?_
        refine lv_aload_n hx hb d_Ctl_runs_109 rfl (lv_at hl 0 rfl) ?_
        refine lv_aload_n hx hb d_Ctl_runs_110 rfl (lv_at hl 1 rfl) ?_
        refine k_cVv (As := [.ref aI]) (rest := []) (wr := []) (wj := [(aS, .inr (9, [.ref aG, .ref aX, .int nx, .int lt, .int sm, .int ex])), (aG, .inl (cG, 32, .inl g)), (aX, .inl (cX, 64, .inl (f_Ctl_keepFields g sp iw id))), (aI, .inr (5, [.int iw, .int io, .int id, .int ia, .int ib, .int ii, .int is, .int iu])), (aK, .inr (4, [.ref aS]))]) ⟨hx, hb, hml, hown, hB⟩ (c_Ctl_keepFields l D aS aG aX aI aK cG cX g sp nx lt sm ex iw io id ia ib ii is iu aI) yl_Ctl_keepFields mw_536 hK hN hP hD hS hA [0, 1] [0, 1, 2, 3, 4] [] [0, 1, 2, 3, 4] rfl rfl rfl rfl (by decide +kernel) 4 rfl rfl rfl rfl hl.1 rfl (Nat.le_of_ble_eq_true rfl) ⟨Nat.le_of_ble_eq_true rfl, Nat.le_of_ble_eq_true rfl⟩ d_Ctl_runs_111 ⟨Nat.le_of_ble_eq_true rfl, Nat.le_of_ble_eq_true rfl⟩ (fun H locs hP hD hS => ?_)
        refine lv_iconst (v := (1 : Int32)) hx hb d_Ctl_runs_114 (by decide) ?_
        have ef : f_Ctl_runs g sp nx lt ex iw id ia ib ii = ((1 : Int32), g, (f_Ctl_keepFields g sp iw id), nx, lt, ex) := by unfold f_Ctl_runs; try dsimp only; rw [if_neg h1, if_neg h2, if_pos h9]
        exact k_zret hx hb hr hlocks hK hP hD hS [0, 1, 2, 3, 4] rfl (by rw [ef] <;> rfl) (by rw [ef] <;> rfl) nb1 d_Ctl_runs_115
      · by_cases h10 : ii = (339 : Int32) ∨ ii = (467 : Int32)
        · refine lv_lookup (off := 112) (tgt := 116) hx hb d_Ctl_runs_4 (by decide) (by rcases h10 with hq9 | hq9 <;> rw [hq9] <;> rfl) (by decide) ?_
          refine lv_aload_n hx hb d_Ctl_runs_116 rfl (lv_at hl 0 rfl) ?_
          refine lv_aload_n hx hb d_Ctl_runs_117 rfl (lv_at hl 1 rfl) ?_
          let t11 := (f_Ctl_movesSpecial g sp nx lt ex id ia ib ii)
          refine k_cVi (As := [.ref aI]) (rest := []) (wr := []) (wj := [(aS, .inr (9, [.ref aG, .ref aX, .int t11.2.2.2.1, .int t11.2.2.2.2.1, .int sm, .int t11.2.2.2.2.2])), (aG, .inl (cG, 32, .inl t11.2.1)), (aX, .inl (cX, 64, .inl t11.2.2.1)), (aI, .inr (5, [.int iw, .int io, .int id, .int ia, .int ib, .int ii, .int is, .int iu])), (aK, .inr (4, [.ref aS]))]) ⟨hx, hb, hml, hown, hB⟩ (c_Ctl_movesSpecial l D aS aG aX aI aK cG cX g sp nx lt sm ex iw io id ia ib ii is iu aI) yl_Ctl_movesSpecial mw_543 hK hN hP hD hS hA [0, 1] [0, 1, 2, 3, 4] [] [0, 1, 2, 3, 4] rfl rfl rfl rfl (by decide +kernel) 4 rfl rfl rfl rfl hl.1 rfl (Nat.le_of_ble_eq_true rfl) ⟨Nat.le_of_ble_eq_true rfl, Nat.le_of_ble_eq_true rfl⟩ d_Ctl_runs_118 ⟨Nat.le_of_ble_eq_true rfl, Nat.le_of_ble_eq_true rfl⟩ (fun H locs hP hD hS => ?_)
          have ef : f_Ctl_runs g sp nx lt ex iw id ia ib ii = (t11.1, t11.2.1, t11.2.2.1, t11.2.2.2.1, t11.2.2.2.2.1, t11.2.2.2.2.2) := by unfold f_Ctl_runs; try dsimp only; rw [if_neg h1, if_neg h2, if_neg h9, if_pos h10]
          exact k_zret hx hb hr hlocks hK hP hD hS [0, 1, 2, 3, 4] rfl (by rw [ef] <;> rfl) (by rw [ef] <;> rfl) (nb_Ctl_movesSpecial _ _ _ _ _ _ _ _ _) d_Ctl_runs_121
        · by_cases h12 : ii = (598 : Int32)
          · refine lv_lookup (off := 118) (tgt := 122) hx hb d_Ctl_runs_4 (by decide) (by have hq9 := h12 <;> rw [hq9] <;> rfl) (by decide) ?_
            refine lv_iconst (v := (1 : Int32)) hx hb d_Ctl_runs_122 (by decide) ?_
            have ef : f_Ctl_runs g sp nx lt ex iw id ia ib ii = ((1 : Int32), g, sp, nx, lt, ex) := by unfold f_Ctl_runs; try dsimp only; rw [if_neg h1, if_neg h2, if_neg h9, if_neg h10, if_pos h12]
            exact k_zret hx hb hr hlocks hK hP hD hS [0, 1, 2, 3, 4] rfl (by rw [ef] <;> rfl) (by rw [ef] <;> rfl) nb1 d_Ctl_runs_123
          · refine lv_lookup (off := 137) (tgt := 141) hx hb d_Ctl_runs_4 (by decide) (by rw [lv_osw (k := (19 : Int32)) h1 (by decide), lv_osw (k := (83 : Int32)) (fun hq9 => h2 (Or.inl hq9)) (by decide), lv_osw (k := (144 : Int32)) h9 (by decide), lv_osw (k := (146 : Int32)) (fun hq9 => h2 (Or.inr (Or.inl hq9))) (by decide), lv_osw (k := (210 : Int32)) (fun hq9 => h2 (Or.inr (Or.inr (Or.inl hq9)))) (by decide), lv_osw (k := (339 : Int32)) (fun hq9 => h10 (Or.inl hq9)) (by decide), lv_osw (k := (467 : Int32)) (fun hq9 => h10 (Or.inr (hq9))) (by decide), lv_osw (k := (595 : Int32)) (fun hq9 => h2 (Or.inr (Or.inr (Or.inr (hq9))))) (by decide), lv_osw (k := (598 : Int32)) h12 (by decide)]; rfl) (by decide) ?_
            refine lv_iconst (v := (0 : Int32)) hx hb d_Ctl_runs_141 (by decide) ?_
            have ef : f_Ctl_runs g sp nx lt ex iw id ia ib ii = ((0 : Int32), g, sp, nx, lt, ex) := by unfold f_Ctl_runs; try dsimp only; rw [if_neg h1, if_neg h2, if_neg h9, if_neg h10, if_neg h12]
            exact k_zret hx hb hr hlocks hK hP hD hS [0, 1, 2, 3, 4] rfl (by rw [ef] <;> rfl) (by rw [ef] <;> rfl) nb0 d_Ctl_runs_142
