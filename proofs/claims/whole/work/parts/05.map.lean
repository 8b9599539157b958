/-! MappedProcessor$Mapper.freeBits(I)I -/
theorem d_Map_freeBits_0 : decode b_Map_freeBits 0 = .ok (.iload_n 0, 1) := by decide +kernel
theorem d_Map_freeBits_1 : decode b_Map_freeBits 1 = .ok (.iconst 2, 1) := by decide +kernel
theorem d_Map_freeBits_2 : decode b_Map_freeBits 2 = .ok (.ishr, 1) := by decide +kernel
theorem d_Map_freeBits_3 : decode b_Map_freeBits 3 = .ok (.sipush 2047, 3) := by decide +kernel
theorem d_Map_freeBits_6 : decode b_Map_freeBits 6 = .ok (.iand, 1) := by decide +kernel
theorem d_Map_freeBits_7 : decode b_Map_freeBits 7 = .ok (.bipush 13, 2) := by decide +kernel
theorem d_Map_freeBits_9 : decode b_Map_freeBits 9 = .ok (.ishl, 1) := by decide +kernel
theorem d_Map_freeBits_10 : decode b_Map_freeBits 10 = .ok (.ireturn, 1) := by decide +kernel
def f_Map_freeBits (p0 : Int32) : Int32 :=
  (shl ((shr p0 (2 : Int32)) &&& (2047 : Int32)) (13 : Int32))
set_option maxHeartbeats 4000000 in
set_option maxRecDepth 100000 in
theorem c_Map_freeBits (l : Launch) (D : va_G) (p0 : Int32) : kMi l y_Map_freeBits b_Map_freeBits 1 (some .int) 0 0 D kCl [] [.int p0] [] (f_Map_freeBits p0) [] := by
  refine k_entry (Qc := fun A => kQi D kCl [] (f_Map_freeBits p0) [] A) (lv := [(0, .int p0)]) (by decide) (Nat.le_of_ble_eq_true rfl) rfl ?_
  intro p e s m below meth c A ls hx hb hr hml hB hown hlocks hin hA hK hN hP hD hS hl
  have hown : s.vm.findClass "MappedProcessor$Mapper" = some m.cls := hown
  refine lv_iload_n hx hb d_Map_freeBits_0 rfl (lv_at hl 0 rfl) ?_
  refine lv_iconst (v := (2 : Int32)) hx hb d_Map_freeBits_1 (by decide) ?_
  refine lv_ishr hx hb d_Map_freeBits_2 ?_
  refine lv_sipush (v := (2047 : Int32)) hx hb d_Map_freeBits_3 (by decide) ?_
  refine lv_iand hx hb d_Map_freeBits_6 ?_
  refine lv_bipush (v := (13 : Int32)) hx hb d_Map_freeBits_7 (by decide) ?_
  refine lv_ishl hx hb d_Map_freeBits_9 ?_
  have ef : f_Map_freeBits p0 = (shl ((shr p0 (2 : Int32)) &&& (2047 : Int32)) (13 : Int32)) := rfl
  exact k_iret hx hb hr hlocks hK hP hD hS [] rfl rfl (by rw [ef] <;> rfl) d_Map_freeBits_10
/-! MappedProcessor$Mapper.matchingBlock(II)I -/
theorem d_Map_matchingBlock_0 : decode b_Map_matchingBlock 0 = .ok (.iload_n 2, 1) := by decide +kernel
theorem d_Map_matchingBlock_1 : decode b_Map_matchingBlock 1 = .ok (.ifCond .ne 8, 3) := by decide +kernel
theorem d_Map_matchingBlock_4 : decode b_Map_matchingBlock 4 = .ok (.bipush 16, 2) := by decide +kernel
theorem d_Map_matchingBlock_6 : decode b_Map_matchingBlock 6 = .ok (.goto 5, 3) := by decide +kernel
theorem d_Map_matchingBlock_9 : decode b_Map_matchingBlock 9 = .ok (.bipush 24, 2) := by decide +kernel
theorem d_Map_matchingBlock_11 : decode b_Map_matchingBlock 11 = .ok (.istore_n 3, 1) := by decide +kernel
theorem d_Map_matchingBlock_12 : decode b_Map_matchingBlock 12 = .ok (.aload_n 0, 1) := by decide +kernel
theorem d_Map_matchingBlock_13 : decode b_Map_matchingBlock 13 = .ok (.getfield 15, 3) := by decide +kernel
theorem d_Map_matchingBlock_16 : decode b_Map_matchingBlock 16 = .ok (.iconst 1, 1) := by decide +kernel
theorem d_Map_matchingBlock_17 : decode b_Map_matchingBlock 17 = .ok (.sipush 16384, 3) := by decide +kernel
theorem d_Map_matchingBlock_20 : decode b_Map_matchingBlock 20 = .ok (.invokevirtual 23, 3) := by decide +kernel
theorem d_Map_matchingBlock_23 : decode b_Map_matchingBlock 23 = .ok (.ifCond .eq 7, 3) := by decide +kernel
theorem d_Map_matchingBlock_26 : decode b_Map_matchingBlock 26 = .ok (.iconst 1, 1) := by decide +kernel
theorem d_Map_matchingBlock_27 : decode b_Map_matchingBlock 27 = .ok (.goto 4, 3) := by decide +kernel
theorem d_Map_matchingBlock_30 : decode b_Map_matchingBlock 30 = .ok (.iconst 2, 1) := by decide +kernel
theorem d_Map_matchingBlock_31 : decode b_Map_matchingBlock 31 = .ok (.istore 4, 2) := by decide +kernel
theorem d_Map_matchingBlock_33 : decode b_Map_matchingBlock 33 = .ok (.iconst 0, 1) := by decide +kernel
theorem d_Map_matchingBlock_34 : decode b_Map_matchingBlock 34 = .ok (.istore 5, 2) := by decide +kernel
theorem d_Map_matchingBlock_36 : decode b_Map_matchingBlock 36 = .ok (.iload 5, 2) := by decide +kernel
theorem d_Map_matchingBlock_38 : decode b_Map_matchingBlock 38 = .ok (.iconst 4, 1) := by decide +kernel
theorem d_Map_matchingBlock_39 : decode b_Map_matchingBlock 39 = .ok (.if_icmp .ge 58, 3) := by decide +kernel
theorem d_Map_matchingBlock_42 : decode b_Map_matchingBlock 42 = .ok (.aload_n 0, 1) := by decide +kernel
theorem d_Map_matchingBlock_43 : decode b_Map_matchingBlock 43 = .ok (.getfield 15, 3) := by decide +kernel
theorem d_Map_matchingBlock_46 : decode b_Map_matchingBlock 46 = .ok (.iload_n 3, 1) := by decide +kernel
theorem d_Map_matchingBlock_47 : decode b_Map_matchingBlock 47 = .ok (.iconst 2, 1) := by decide +kernel
theorem d_Map_matchingBlock_48 : decode b_Map_matchingBlock 48 = .ok (.iload 5, 2) := by decide +kernel
theorem d_Map_matchingBlock_50 : decode b_Map_matchingBlock 50 = .ok (.imul, 1) := by decide +kernel
theorem d_Map_matchingBlock_51 : decode b_Map_matchingBlock 51 = .ok (.iadd, 1) := by decide +kernel
theorem d_Map_matchingBlock_52 : decode b_Map_matchingBlock 52 = .ok (.invokevirtual 38, 3) := by decide +kernel
theorem d_Map_matchingBlock_55 : decode b_Map_matchingBlock 55 = .ok (.istore 6, 2) := by decide +kernel
theorem d_Map_matchingBlock_57 : decode b_Map_matchingBlock 57 = .ok (.iload 6, 2) := by decide +kernel
theorem d_Map_matchingBlock_59 : decode b_Map_matchingBlock 59 = .ok (.iload 4, 2) := by decide +kernel
theorem d_Map_matchingBlock_61 : decode b_Map_matchingBlock 61 = .ok (.iand, 1) := by decide +kernel
theorem d_Map_matchingBlock_62 : decode b_Map_matchingBlock 62 = .ok (.ifCond .eq 29, 3) := by decide +kernel
theorem d_Map_matchingBlock_65 : decode b_Map_matchingBlock 65 = .ok (.iload_n 1, 1) := by decide +kernel
theorem d_Map_matchingBlock_66 : decode b_Map_matchingBlock 66 = .ok (.iload 6, 2) := by decide +kernel
theorem d_Map_matchingBlock_68 : decode b_Map_matchingBlock 68 = .ok (.ixor, 1) := by decide +kernel
theorem d_Map_matchingBlock_69 : decode b_Map_matchingBlock 69 = .ok (.sipush (-8192), 3) := by decide +kernel
theorem d_Map_matchingBlock_72 : decode b_Map_matchingBlock 72 = .ok (.iand, 1) := by decide +kernel
theorem d_Map_matchingBlock_73 : decode b_Map_matchingBlock 73 = .ok (.iload 6, 2) := by decide +kernel
theorem d_Map_matchingBlock_75 : decode b_Map_matchingBlock 75 = .ok (.invokestatic 60, 3) := by decide +kernel
theorem d_Map_matchingBlock_78 : decode b_Map_matchingBlock 78 = .ok (.iconst (-1), 1) := by decide +kernel
theorem d_Map_matchingBlock_79 : decode b_Map_matchingBlock 79 = .ok (.ixor, 1) := by decide +kernel
theorem d_Map_matchingBlock_80 : decode b_Map_matchingBlock 80 = .ok (.iand, 1) := by decide +kernel
theorem d_Map_matchingBlock_81 : decode b_Map_matchingBlock 81 = .ok (.ifCond .ne 10, 3) := by decide +kernel
theorem d_Map_matchingBlock_84 : decode b_Map_matchingBlock 84 = .ok (.iload_n 3, 1) := by decide +kernel
theorem d_Map_matchingBlock_85 : decode b_Map_matchingBlock 85 = .ok (.iconst 2, 1) := by decide +kernel
theorem d_Map_matchingBlock_86 : decode b_Map_matchingBlock 86 = .ok (.iload 5, 2) := by decide +kernel
theorem d_Map_matchingBlock_88 : decode b_Map_matchingBlock 88 = .ok (.imul, 1) := by decide +kernel
theorem d_Map_matchingBlock_89 : decode b_Map_matchingBlock 89 = .ok (.iadd, 1) := by decide +kernel
theorem d_Map_matchingBlock_90 : decode b_Map_matchingBlock 90 = .ok (.ireturn, 1) := by decide +kernel
theorem d_Map_matchingBlock_91 : decode b_Map_matchingBlock 91 = .ok (.iinc 5 1, 3) := by decide +kernel
theorem d_Map_matchingBlock_94 : decode b_Map_matchingBlock 94 = .ok (.goto (-58), 3) := by decide +kernel
theorem d_Map_matchingBlock_97 : decode b_Map_matchingBlock 97 = .ok (.iconst (-1), 1) := by decide +kernel
theorem d_Map_matchingBlock_98 : decode b_Map_matchingBlock 98 = .ok (.ireturn, 1) := by decide +kernel
def f_Map_matchingBlock (p0 : Int32) (p1 : Int32) (sp : Nat → Int32) : Int32 :=
  if ((f_Sta_read ((if p1 = (0 : Int32) then (16 : Int32) else (24 : Int32)) + (0 : Int32)) sp) &&& (if (f_Sta_has (1 : Int32) (16384 : Int32) sp) = (0 : Int32) then (2 : Int32) else (1 : Int32))) = (0 : Int32) then
    if ((f_Sta_read ((if p1 = (0 : Int32) then (16 : Int32) else (24 : Int32)) + (2 : Int32)) sp) &&& (if (f_Sta_has (1 : Int32) (16384 : Int32) sp) = (0 : Int32) then (2 : Int32) else (1 : Int32))) = (0 : Int32) then
      if ((f_Sta_read ((if p1 = (0 : Int32) then (16 : Int32) else (24 : Int32)) + (4 : Int32)) sp) &&& (if (f_Sta_has (1 : Int32) (16384 : Int32) sp) = (0 : Int32) then (2 : Int32) else (1 : Int32))) = (0 : Int32) then
        if ((f_Sta_read ((if p1 = (0 : Int32) then (16 : Int32) else (24 : Int32)) + (6 : Int32)) sp) &&& (if (f_Sta_has (1 : Int32) (16384 : Int32) sp) = (0 : Int32) then (2 : Int32) else (1 : Int32))) = (0 : Int32) then
          (-1 : Int32)
        else
          if (((p0 ^^^ (f_Sta_read ((if p1 = (0 : Int32) then (16 : Int32) else (24 : Int32)) + (6 : Int32)) sp)) &&& (-8192 : Int32)) &&& ((f_Map_freeBits (f_Sta_read ((if p1 = (0 : Int32) then (16 : Int32) else (24 : Int32)) + (6 : Int32)) sp)) ^^^ (-1 : Int32))) = (0 : Int32) then
            ((if p1 = (0 : Int32) then (16 : Int32) else (24 : Int32)) + (6 : Int32))
          else
            (-1 : Int32)
      else
        if (((p0 ^^^ (f_Sta_read ((if p1 = (0 : Int32) then (16 : Int32) else (24 : Int32)) + (4 : Int32)) sp)) &&& (-8192 : Int32)) &&& ((f_Map_freeBits (f_Sta_read ((if p1 = (0 : Int32) then (16 : Int32) else (24 : Int32)) + (4 : Int32)) sp)) ^^^ (-1 : Int32))) = (0 : Int32) then
          ((if p1 = (0 : Int32) then (16 : Int32) else (24 : Int32)) + (4 : Int32))
        else
          if ((f_Sta_read ((if p1 = (0 : Int32) then (16 : Int32) else (24 : Int32)) + (6 : Int32)) sp) &&& (if (f_Sta_has (1 : Int32) (16384 : Int32) sp) = (0 : Int32) then (2 : Int32) else (1 : Int32))) = (0 : Int32) then
            (-1 : Int32)
          else
            if (((p0 ^^^ (f_Sta_read ((if p1 = (0 : Int32) then (16 : Int32) else (24 : Int32)) + (6 : Int32)) sp)) &&& (-8192 : Int32)) &&& ((f_Map_freeBits (f_Sta_read ((if p1 = (0 : Int32) then (16 : Int32) else (24 : Int32)) + (6 : Int32)) sp)) ^^^ (-1 : Int32))) = (0 : Int32) then
              ((if p1 = (0 : Int32) then (16 : Int32) else (24 : Int32)) + (6 : Int32))
            else
              (-1 : Int32)
    else
      if (((p0 ^^^ (f_Sta_read ((if p1 = (0 : Int32) then (16 : Int32) else (24 : Int32)) + (2 : Int32)) sp)) &&& (-8192 : Int32)) &&& ((f_Map_freeBits (f_Sta_read ((if p1 = (0 : Int32) then (16 : Int32) else (24 : Int32)) + (2 : Int32)) sp)) ^^^ (-1 : Int32))) = (0 : Int32) then
        ((if p1 = (0 : Int32) then (16 : Int32) else (24 : Int32)) + (2 : Int32))
      else
        if ((f_Sta_read ((if p1 = (0 : Int32) then (16 : Int32) else (24 : Int32)) + (4 : Int32)) sp) &&& (if (f_Sta_has (1 : Int32) (16384 : Int32) sp) = (0 : Int32) then (2 : Int32) else (1 : Int32))) = (0 : Int32) then
          if ((f_Sta_read ((if p1 = (0 : Int32) then (16 : Int32) else (24 : Int32)) + (6 : Int32)) sp) &&& (if (f_Sta_has (1 : Int32) (16384 : Int32) sp) = (0 : Int32) then (2 : Int32) else (1 : Int32))) = (0 : Int32) then
            (-1 : Int32)
          else
            if (((p0 ^^^ (f_Sta_read ((if p1 = (0 : Int32) then (16 : Int32) else (24 : Int32)) + (6 : Int32)) sp)) &&& (-8192 : Int32)) &&& ((f_Map_freeBits (f_Sta_read ((if p1 = (0 : Int32) then (16 : Int32) else (24 : Int32)) + (6 : Int32)) sp)) ^^^ (-1 : Int32))) = (0 : Int32) then
              ((if p1 = (0 : Int32) then (16 : Int32) else (24 : Int32)) + (6 : Int32))
            else
              (-1 : Int32)
        else
          if (((p0 ^^^ (f_Sta_read ((if p1 = (0 : Int32) then (16 : Int32) else (24 : Int32)) + (4 : Int32)) sp)) &&& (-8192 : Int32)) &&& ((f_Map_freeBits (f_Sta_read ((if p1 = (0 : Int32) then (16 : Int32) else (24 : Int32)) + (4 : Int32)) sp)) ^^^ (-1 : Int32))) = (0 : Int32) then
            ((if p1 = (0 : Int32) then (16 : Int32) else (24 : Int32)) + (4 : Int32))
          else
            if ((f_Sta_read ((if p1 = (0 : Int32) then (16 : Int32) else (24 : Int32)) + (6 : Int32)) sp) &&& (if (f_Sta_has (1 : Int32) (16384 : Int32) sp) = (0 : Int32) then (2 : Int32) else (1 : Int32))) = (0 : Int32) then
              (-1 : Int32)
            else
              if (((p0 ^^^ (f_Sta_read ((if p1 = (0 : Int32) then (16 : Int32) else (24 : Int32)) + (6 : Int32)) sp)) &&& (-8192 : Int32)) &&& ((f_Map_freeBits (f_Sta_read ((if p1 = (0 : Int32) then (16 : Int32) else (24 : Int32)) + (6 : Int32)) sp)) ^^^ (-1 : Int32))) = (0 : Int32) then
                ((if p1 = (0 : Int32) then (16 : Int32) else (24 : Int32)) + (6 : Int32))
              else
                (-1 : Int32)
  else
    if (((p0 ^^^ (f_Sta_read ((if p1 = (0 : Int32) then (16 : Int32) else (24 : Int32)) + (0 : Int32)) sp)) &&& (-8192 : Int32)) &&& ((f_Map_freeBits (f_Sta_read ((if p1 = (0 : Int32) then (16 : Int32) else (24 : Int32)) + (0 : Int32)) sp)) ^^^ (-1 : Int32))) = (0 : Int32) then
      ((if p1 = (0 : Int32) then (16 : Int32) else (24 : Int32)) + (0 : Int32))
    else
      if ((f_Sta_read ((if p1 = (0 : Int32) then (16 : Int32) else (24 : Int32)) + (2 : Int32)) sp) &&& (if (f_Sta_has (1 : Int32) (16384 : Int32) sp) = (0 : Int32) then (2 : Int32) else (1 : Int32))) = (0 : Int32) then
        if ((f_Sta_read ((if p1 = (0 : Int32) then (16 : Int32) else (24 : Int32)) + (4 : Int32)) sp) &&& (if (f_Sta_has (1 : Int32) (16384 : Int32) sp) = (0 : Int32) then (2 : Int32) else (1 : Int32))) = (0 : Int32) then
          if ((f_Sta_read ((if p1 = (0 : Int32) then (16 : Int32) else (24 : Int32)) + (6 : Int32)) sp) &&& (if (f_Sta_has (1 : Int32) (16384 : Int32) sp) = (0 : Int32) then (2 : Int32) else (1 : Int32))) = (0 : Int32) then
            (-1 : Int32)
          else
            if (((p0 ^^^ (f_Sta_read ((if p1 = (0 : Int32) then (16 : Int32) else (24 : Int32)) + (6 : Int32)) sp)) &&& (-8192 : Int32)) &&& ((f_Map_freeBits (f_Sta_read ((if p1 = (0 : Int32) then (16 : Int32) else (24 : Int32)) + (6 : Int32)) sp)) ^^^ (-1 : Int32))) = (0 : Int32) then
              ((if p1 = (0 : Int32) then (16 : Int32) else (24 : Int32)) + (6 : Int32))
            else
              (-1 : Int32)
        else
          if (((p0 ^^^ (f_Sta_read ((if p1 = (0 : Int32) then (16 : Int32) else (24 : Int32)) + (4 : Int32)) sp)) &&& (-8192 : Int32)) &&& ((f_Map_freeBits (f_Sta_read ((if p1 = (0 : Int32) then (16 : Int32) else (24 : Int32)) + (4 : Int32)) sp)) ^^^ (-1 : Int32))) = (0 : Int32) then
            ((if p1 = (0 : Int32) then (16 : Int32) else (24 : Int32)) + (4 : Int32))
          else
            if ((f_Sta_read ((if p1 = (0 : Int32) then (16 : Int32) else (24 : Int32)) + (6 : Int32)) sp) &&& (if (f_Sta_has (1 : Int32) (16384 : Int32) sp) = (0 : Int32) then (2 : Int32) else (1 : Int32))) = (0 : Int32) then
              (-1 : Int32)
            else
              if (((p0 ^^^ (f_Sta_read ((if p1 = (0 : Int32) then (16 : Int32) else (24 : Int32)) + (6 : Int32)) sp)) &&& (-8192 : Int32)) &&& ((f_Map_freeBits (f_Sta_read ((if p1 = (0 : Int32) then (16 : Int32) else (24 : Int32)) + (6 : Int32)) sp)) ^^^ (-1 : Int32))) = (0 : Int32) then
                ((if p1 = (0 : Int32) then (16 : Int32) else (24 : Int32)) + (6 : Int32))
              else
                (-1 : Int32)
      else
        if (((p0 ^^^ (f_Sta_read ((if p1 = (0 : Int32) then (16 : Int32) else (24 : Int32)) + (2 : Int32)) sp)) &&& (-8192 : Int32)) &&& ((f_Map_freeBits (f_Sta_read ((if p1 = (0 : Int32) then (16 : Int32) else (24 : Int32)) + (2 : Int32)) sp)) ^^^ (-1 : Int32))) = (0 : Int32) then
          ((if p1 = (0 : Int32) then (16 : Int32) else (24 : Int32)) + (2 : Int32))
        else
          if ((f_Sta_read ((if p1 = (0 : Int32) then (16 : Int32) else (24 : Int32)) + (4 : Int32)) sp) &&& (if (f_Sta_has (1 : Int32) (16384 : Int32) sp) = (0 : Int32) then (2 : Int32) else (1 : Int32))) = (0 : Int32) then
            if ((f_Sta_read ((if p1 = (0 : Int32) then (16 : Int32) else (24 : Int32)) + (6 : Int32)) sp) &&& (if (f_Sta_has (1 : Int32) (16384 : Int32) sp) = (0 : Int32) then (2 : Int32) else (1 : Int32))) = (0 : Int32) then
              (-1 : Int32)
            else
              if (((p0 ^^^ (f_Sta_read ((if p1 = (0 : Int32) then (16 : Int32) else (24 : Int32)) + (6 : Int32)) sp)) &&& (-8192 : Int32)) &&& ((f_Map_freeBits (f_Sta_read ((if p1 = (0 : Int32) then (16 : Int32) else (24 : Int32)) + (6 : Int32)) sp)) ^^^ (-1 : Int32))) = (0 : Int32) then
                ((if p1 = (0 : Int32) then (16 : Int32) else (24 : Int32)) + (6 : Int32))
              else
                (-1 : Int32)
          else
            if (((p0 ^^^ (f_Sta_read ((if p1 = (0 : Int32) then (16 : Int32) else (24 : Int32)) + (4 : Int32)) sp)) &&& (-8192 : Int32)) &&& ((f_Map_freeBits (f_Sta_read ((if p1 = (0 : Int32) then (16 : Int32) else (24 : Int32)) + (4 : Int32)) sp)) ^^^ (-1 : Int32))) = (0 : Int32) then
              ((if p1 = (0 : Int32) then (16 : Int32) else (24 : Int32)) + (4 : Int32))
            else
              if ((f_Sta_read ((if p1 = (0 : Int32) then (16 : Int32) else (24 : Int32)) + (6 : Int32)) sp) &&& (if (f_Sta_has (1 : Int32) (16384 : Int32) sp) = (0 : Int32) then (2 : Int32) else (1 : Int32))) = (0 : Int32) then
                (-1 : Int32)
              else
                if (((p0 ^^^ (f_Sta_read ((if p1 = (0 : Int32) then (16 : Int32) else (24 : Int32)) + (6 : Int32)) sp)) &&& (-8192 : Int32)) &&& ((f_Map_freeBits (f_Sta_read ((if p1 = (0 : Int32) then (16 : Int32) else (24 : Int32)) + (6 : Int32)) sp)) ^^^ (-1 : Int32))) = (0 : Int32) then
                  ((if p1 = (0 : Int32) then (16 : Int32) else (24 : Int32)) + (6 : Int32))
                else
                  (-1 : Int32)
set_option maxHeartbeats 4000000 in
set_option maxRecDepth 100000 in
theorem c_Map_matchingBlock (l : Launch) (D : va_G) (aM aW aS aG aX aQ : Nat) (cW cG cX : ClassId) (w : Nat → Int32) (g : Nat → Int32) (sp : Nat → Int32) (nx : Int32) (lt : Int32) (sm : Int32) (ex : Int32) (en : Int32) (p0 : Int32) (p1 : Int32) : kMi l y_Map_matchingBlock b_Map_matchingBlock 7 (some .int) 1 22 D kCl [(cW, .int), (cG, .int), (cX, .int)] [.ref aQ, .int p0, .int p1] [(aM, .inr (8, [.ref aW])), (aW, .inl (cW, 16384, .inl w)), (aS, .inr (9, [.ref aG, .ref aX, .int nx, .int lt, .int sm, .int ex])), (aG, .inl (cG, 32, .inl g)), (aX, .inl (cX, 64, .inl sp)), (aQ, .inr (7, [.ref aM, .ref aS, .int en]))] (f_Map_matchingBlock p0 p1 sp) [(aM, .inr (8, [.ref aW])), (aW, .inl (cW, 16384, .inl w)), (aS, .inr (9, [.ref aG, .ref aX, .int nx, .int lt, .int sm, .int ex])), (aG, .inl (cG, 32, .inl g)), (aX, .inl (cX, 64, .inl sp)), (aQ, .inr (7, [.ref aM, .ref aS, .int en]))] := by
  refine k_entry (Qc := fun A => kQi D kCl [(cW, .int), (cG, .int), (cX, .int)] (f_Map_matchingBlock p0 p1 sp) [(aM, .inr (8, [.ref aW])), (aW, .inl (cW, 16384, .inl w)), (aS, .inr (9, [.ref aG, .ref aX, .int nx, .int lt, .int sm, .int ex])), (aG, .inl (cG, 32, .inl g)), (aX, .inl (cX, 64, .inl sp)), (aQ, .inr (7, [.ref aM, .ref aS, .int en]))] A) (lv := [(0, .ref aQ), (1, .int p0), (2, .int p1)]) (by decide) (Nat.le_of_ble_eq_true rfl) rfl ?_
  intro p e s m below meth c A ls hx hb hr hml hB hown hlocks hin hA hK hN hP hD hS hl
  have hown : s.vm.findClass "MappedProcessor$Mapper" = some m.cls := hown
  refine lv_iload_n hx hb d_Map_matchingBlock_0 rfl (lv_at hl 2 rfl) ?_
  refine k_join2 (c0 := p1 = (0 : Int32)) (x1 := (16 : Int32)) (x2 := (24 : Int32)) (rest := []) 11 ?_ (fun k2 k3 => ?_)
  rotate_left
  · refine lv_if_ne (tgt := 9) hx hb d_Map_matchingBlock_1 (by decide) (fun (h1 : ¬ p1 = (0 : Int32)) => ?_) (fun (h1 : p1 = (0 : Int32)) => ?_)
    · refine lv_bipush (v := (24 : Int32)) hx hb d_Map_matchingBlock_9 (by decide) ?_
      exact k3 h1
    · refine lv_bipush (v := (16 : Int32)) hx hb d_Map_matchingBlock_4 (by decide) ?_
      refine lv_goto (tgt := 11) hx hb d_Map_matchingBlock_6 (by decide) ?_
      exact k2 h1
  refine lv_istore_n (lv' := [(3, .int (if p1 = (0 : Int32) then (16 : Int32) else (24 : Int32))), (0, .ref aQ), (1, .int p0), (2, .int p1)]) hx hb d_Map_matchingBlock_11 rfl hl (by decide) rfl (fun ls hl => ?_)
  refine lv_aload_n hx hb d_Map_matchingBlock_12 rfl (lv_at hl 1 rfl) ?_
  refine va_get (D := D) (ci := 7) (v := .ref aS) (C := "MappedProcessor$Mapper") (T := T_Map) (N := 3) hx hb hB iw_Map hown hK hP 5 rfl rfl 1 (by decide) (hB _ mw_65) (fun _ h9 => h9) rfl d_Map_matchingBlock_13 ?_
  refine lv_iconst (v := (1 : Int32)) hx hb d_Map_matchingBlock_16 (by decide) ?_
  refine lv_sipush (v := (16384 : Int32)) hx hb d_Map_matchingBlock_17 (by decide) ?_
  refine k_cVi (As := [.int (1 : Int32), .int (16384 : Int32)]) (rest := []) (wr := [(aM, .inr (8, [.ref aW])), (aW, .inl (cW, 16384, .inl w)), (aQ, .inr (7, [.ref aM, .ref aS, .int en]))]) (wj := [(aM, .inr (8, [.ref aW])), (aW, .inl (cW, 16384, .inl w)), (aS, .inr (9, [.ref aG, .ref aX, .int nx, .int lt, .int sm, .int ex])), (aG, .inl (cG, 32, .inl g)), (aX, .inl (cX, 64, .inl sp)), (aQ, .inr (7, [.ref aM, .ref aS, .int en]))]) ⟨hx, hb, hml, hown, hB⟩ (c_Sta_has l D aS aG aX cG cX g sp nx lt sm ex (1 : Int32) (16384 : Int32)) yl_Sta_has mw_312 hK hN hP hD hS hA [1, 2] [2, 3, 4] [0, 1, 5] [0, 1, 3, 4, 5, 2] rfl rfl rfl rfl (by decide +kernel) 0 rfl rfl rfl rfl hl.1 rfl (Nat.le_of_ble_eq_true rfl) ⟨Nat.le_of_ble_eq_true rfl, Nat.le_of_ble_eq_true rfl⟩ d_Map_matchingBlock_20 ⟨Nat.le_of_ble_eq_true rfl, Nat.le_of_ble_eq_true rfl⟩ (fun H locs hP hD hS => ?_)
  refine k_join2 (c0 := (f_Sta_has (1 : Int32) (16384 : Int32) sp) = (0 : Int32)) (x1 := (2 : Int32)) (x2 := (1 : Int32)) (rest := []) 31 ?_ (fun k7 k8 => ?_)
  rotate_left
  · refine lv_if_eq (tgt := 30) hx hb d_Map_matchingBlock_23 (by decide) (fun (h6 : (f_Sta_has (1 : Int32) (16384 : Int32) sp) = (0 : Int32)) => ?_) (fun (h6 : ¬ (f_Sta_has (1 : Int32) (16384 : Int32) sp) = (0 : Int32)) => ?_)
    · refine lv_iconst (v := (2 : Int32)) hx hb d_Map_matchingBlock_30 (by decide) ?_
      exact k7 h6
    · refine lv_iconst (v := (1 : Int32)) hx hb d_Map_matchingBlock_26 (by decide) ?_
      refine lv_goto (tgt := 31) hx hb d_Map_matchingBlock_27 (by decide) ?_
      exact k8 h6
  refine lv_istore (lv' := [(4, .int (if (f_Sta_has (1 : Int32) (16384 : Int32) sp) = (0 : Int32) then (2 : Int32) else (1 : Int32))), (3, .int (if p1 = (0 : Int32) then (16 : Int32) else (24 : Int32))), (0, .ref aQ), (1, .int p0), (2, .int p1)]) hx hb d_Map_matchingBlock_31 hl (by decide) rfl (fun ls hl => ?_)
  refine lv_iconst (v := (0 : Int32)) hx hb d_Map_matchingBlock_33 (by decide) ?_
  refine lv_istore (lv' := [(5, .int (0 : Int32)), (4, .int (if (f_Sta_has (1 : Int32) (16384 : Int32) sp) = (0 : Int32) then (2 : Int32) else (1 : Int32))), (3, .int (if p1 = (0 : Int32) then (16 : Int32) else (24 : Int32))), (0, .ref aQ), (1, .int p0), (2, .int p1)]) hx hb d_Map_matchingBlock_34 hl (by decide) rfl (fun ls hl => ?_)
  refine lv_iload hx hb d_Map_matchingBlock_36 (lv_at hl 0 rfl) ?_
  refine lv_iconst (v := (4 : Int32)) hx hb d_Map_matchingBlock_38 (by decide) ?_
  refine lv_icmp_ge (tgt := 97) hx hb d_Map_matchingBlock_39 (by decide) (fun h11 => ?_) (fun h11 => ?_)
  · exact absurd h11 (by decide)
  refine lv_aload_n hx hb d_Map_matchingBlock_42 rfl (lv_at hl 3 rfl) ?_
  refine va_get (D := D) (ci := 7) (v := .ref aS) (C := "MappedProcessor$Mapper") (T := T_Map) (N := 3) hx hb hB iw_Map hown hK hP 5 rfl rfl 1 (by decide) (hB _ mw_65) (fun _ h9 => h9) rfl d_Map_matchingBlock_43 ?_
  refine lv_iload_n hx hb d_Map_matchingBlock_46 rfl (lv_at hl 2 rfl) ?_
  refine lv_iconst (v := (2 : Int32)) hx hb d_Map_matchingBlock_47 (by decide) ?_
  refine lv_iload hx hb d_Map_matchingBlock_48 (lv_at hl 0 rfl) ?_
  refine lv_imul hx hb d_Map_matchingBlock_50 ?_
  refine k_fold (0 : Int32) (by decide) ?_
  refine lv_iadd hx hb d_Map_matchingBlock_51 ?_
  refine k_cVi (As := [.int ((if p1 = (0 : Int32) then (16 : Int32) else (24 : Int32)) + (0 : Int32))]) (rest := []) (wr := [(aM, .inr (8, [.ref aW])), (aW, .inl (cW, 16384, .inl w)), (aQ, .inr (7, [.ref aM, .ref aS, .int en]))]) (wj := [(aM, .inr (8, [.ref aW])), (aW, .inl (cW, 16384, .inl w)), (aS, .inr (9, [.ref aG, .ref aX, .int nx, .int lt, .int sm, .int ex])), (aG, .inl (cG, 32, .inl g)), (aX, .inl (cX, 64, .inl sp)), (aQ, .inr (7, [.ref aM, .ref aS, .int en]))]) ⟨hx, hb, hml, hown, hB⟩ (c_Sta_read l D aS aG aX cG cX g sp nx lt sm ex ((if p1 = (0 : Int32) then (16 : Int32) else (24 : Int32)) + (0 : Int32))) yl_Sta_read mw_321 hK hN hP hD hS hA [1, 2] [2, 3, 4] [0, 1, 5] [0, 1, 3, 4, 5, 2] rfl rfl rfl rfl (by decide +kernel) 0 rfl rfl rfl rfl hl.1 rfl (Nat.le_of_ble_eq_true rfl) ⟨Nat.le_of_ble_eq_true rfl, Nat.le_of_ble_eq_true rfl⟩ d_Map_matchingBlock_52 ⟨Nat.le_of_ble_eq_true rfl, Nat.le_of_ble_eq_true rfl⟩ (fun H locs hP hD hS => ?_)
  refine lv_istore (lv' := [(6, .int (f_Sta_read ((if p1 = (0 : Int32) then (16 : Int32) else (24 : Int32)) + (0 : Int32)) sp)), (5, .int (0 : Int32)), (4, .int (if (f_Sta_has (1 : Int32) (16384 : Int32) sp) = (0 : Int32) then (2 : Int32) else (1 : Int32))), (3, .int (if p1 = (0 : Int32) then (16 : Int32) else (24 : Int32))), (0, .ref aQ), (1, .int p0), (2, .int p1)]) hx hb d_Map_matchingBlock_55 hl (by decide) rfl (fun ls hl => ?_)
  refine lv_iload hx hb d_Map_matchingBlock_57 (lv_at hl 0 rfl) ?_
  refine lv_iload hx hb d_Map_matchingBlock_59 (lv_at hl 2 rfl) ?_
  refine lv_iand hx hb d_Map_matchingBlock_61 ?_
  refine lv_if_eq (tgt := 91) hx hb d_Map_matchingBlock_62 (by decide) (fun (h12 : ((f_Sta_read ((if p1 = (0 : Int32) then (16 : Int32) else (24 : Int32)) + (0 : Int32)) sp) &&& (if (f_Sta_has (1 : Int32) (16384 : Int32) sp) = (0 : Int32) then (2 : Int32) else (1 : Int32))) = (0 : Int32)) => ?_) (fun (h12 : ¬ ((f_Sta_read ((if p1 = (0 : Int32) then (16 : Int32) else (24 : Int32)) + (0 : Int32)) sp) &&& (if (f_Sta_has (1 : Int32) (16384 : Int32) sp) = (0 : Int32) then (2 : Int32) else (1 : Int32))) = (0 : Int32)) => ?_)
  · refine lv_iinc (v := (1 : Int32)) (lv' := [(5, .int (1 : Int32)), (6, .int (f_Sta_read ((if p1 = (0 : Int32) then (16 : Int32) else (24 : Int32)) + (0 : Int32)) sp)), (4, .int (if (f_Sta_has (1 : Int32) (16384 : Int32) sp) = (0 : Int32) then (2 : Int32) else (1 : Int32))), (3, .int (if p1 = (0 : Int32) then (16 : Int32) else (24 : Int32))), (0, .ref aQ), (1, .int p0), (2, .int p1)]) hx hb d_Map_matchingBlock_91 hl (k := 1) rfl (by decide) (by decide) rfl (fun ls hl => ?_)
    refine lv_goto (tgt := 36) hx hb d_Map_matchingBlock_94 (by decide) ?_
    refine lv_iload hx hb d_Map_matchingBlock_36 (lv_at hl 0 rfl) ?_
    refine lv_iconst (v := (4 : Int32)) hx hb d_Map_matchingBlock_38 (by decide) ?_
    refine lv_icmp_ge (tgt := 97) hx hb d_Map_matchingBlock_39 (by decide) (fun h13 => ?_) (fun h13 => ?_)
    · exact absurd h13 (by decide)
    refine lv_aload_n hx hb d_Map_matchingBlock_42 rfl (lv_at hl 4 rfl) ?_
    refine va_get (D := D) (ci := 7) (v := .ref aS) (C := "MappedProcessor$Mapper") (T := T_Map) (N := 3) hx hb hB iw_Map hown hK hP 5 rfl rfl 1 (by decide) (hB _ mw_65) (fun _ h9 => h9) rfl d_Map_matchingBlock_43 ?_
    refine lv_iload_n hx hb d_Map_matchingBlock_46 rfl (lv_at hl 3 rfl) ?_
    refine lv_iconst (v := (2 : Int32)) hx hb d_Map_matchingBlock_47 (by decide) ?_
    refine lv_iload hx hb d_Map_matchingBlock_48 (lv_at hl 0 rfl) ?_
    refine lv_imul hx hb d_Map_matchingBlock_50 ?_
    refine k_fold (2 : Int32) (by decide) ?_
    refine lv_iadd hx hb d_Map_matchingBlock_51 ?_
    refine k_cVi (As := [.int ((if p1 = (0 : Int32) then (16 : Int32) else (24 : Int32)) + (2 : Int32))]) (rest := []) (wr := [(aM, .inr (8, [.ref aW])), (aW, .inl (cW, 16384, .inl w)), (aQ, .inr (7, [.ref aM, .ref aS, .int en]))]) (wj := [(aM, .inr (8, [.ref aW])), (aW, .inl (cW, 16384, .inl w)), (aS, .inr (9, [.ref aG, .ref aX, .int nx, .int lt, .int sm, .int ex])), (aG, .inl (cG, 32, .inl g)), (aX, .inl (cX, 64, .inl sp)), (aQ, .inr (7, [.ref aM, .ref aS, .int en]))]) ⟨hx, hb, hml, hown, hB⟩ (c_Sta_read l D aS aG aX cG cX g sp nx lt sm ex ((if p1 = (0 : Int32) then (16 : Int32) else (24 : Int32)) + (2 : Int32))) yl_Sta_read mw_321 hK hN hP hD hS hA [1, 2] [2, 3, 4] [0, 1, 5] [0, 1, 3, 4, 5, 2] rfl rfl rfl rfl (by decide +kernel) 0 rfl rfl rfl rfl hl.1 rfl (Nat.le_of_ble_eq_true rfl) ⟨Nat.le_of_ble_eq_true rfl, Nat.le_of_ble_eq_true rfl⟩ d_Map_matchingBlock_52 ⟨Nat.le_of_ble_eq_true rfl, Nat.le_of_ble_eq_true rfl⟩ (fun H locs hP hD hS => ?_)
    refine lv_istore (lv' := [(6, .int (f_Sta_read ((if p1 = (0 : Int32) then (16 : Int32) else (24 : Int32)) + (2 : Int32)) sp)), (5, .int (1 : Int32)), (4, .int (if (f_Sta_has (1 : Int32) (16384 : Int32) sp) = (0 : Int32) then (2 : Int32) else (1 : Int32))), (3, .int (if p1 = (0 : Int32) then (16 : Int32) else (24 : Int32))), (0, .ref aQ), (1, .int p0), (2, .int p1)]) hx hb d_Map_matchingBlock_55 hl (by decide) rfl (fun ls hl => ?_)
    refine lv_iload hx hb d_Map_matchingBlock_57 (lv_at hl 0 rfl) ?_
    refine lv_iload hx hb d_Map_matchingBlock_59 (lv_at hl 2 rfl) ?_
    refine lv_iand hx hb d_Map_matchingBlock_61 ?_
    refine lv_if_eq (tgt := 91) hx hb d_Map_matchingBlock_62 (by decide) (fun (h14 : ((f_Sta_read ((if p1 = (0 : Int32) then (16 : Int32) else (24 : Int32)) + (2 : Int32)) sp) &&& (if (f_Sta_has (1 : Int32) (16384 : Int32) sp) = (0 : Int32) then (2 : Int32) else (1 : Int32))) = (0 : Int32)) => ?_) (fun (h14 : ¬ ((f_Sta_read ((if p1 = (0 : Int32) then (16 : Int32) else (24 : Int32)) + (2 : Int32)) sp) &&& (if (f_Sta_has (1 : Int32) (16384 : Int32) sp) = (0 : Int32) then (2 : Int32) else (1 : Int32))) = (0 : Int32)) => ?_)
    · refine lv_iinc (v := (2 : Int32)) (lv' := [(5, .int (2 : Int32)), (6, .int (f_Sta_read ((if p1 = (0 : Int32) then (16 : Int32) else (24 : Int32)) + (2 : Int32)) sp)), (4, .int (if (f_Sta_has (1 : Int32) (16384 : Int32) sp) = (0 : Int32) then (2 : Int32) else (1 : Int32))), (3, .int (if p1 = (0 : Int32) then (16 : Int32) else (24 : Int32))), (0, .ref aQ), (1, .int p0), (2, .int p1)]) hx hb d_Map_matchingBlock_91 hl (k := 1) rfl (by decide) (by decide) rfl (fun ls hl => ?_)
      refine lv_goto (tgt := 36) hx hb d_Map_matchingBlock_94 (by decide) ?_
      refine lv_iload hx hb d_Map_matchingBlock_36 (lv_at hl 0 rfl) ?_
      refine lv_iconst (v := (4 : Int32)) hx hb d_Map_matchingBlock_38 (by decide) ?_
      refine lv_icmp_ge (tgt := 97) hx hb d_Map_matchingBlock_39 (by decide) (fun h15 => ?_) (fun h15 => ?_)
      · exact absurd h15 (by decide)
      refine lv_aload_n hx hb d_Map_matchingBlock_42 rfl (lv_at hl 4 rfl) ?_
      refine va_get (D := D) (ci := 7) (v := .ref aS) (C := "MappedProcessor$Mapper") (T := T_Map) (N := 3) hx hb hB iw_Map hown hK hP 5 rfl rfl 1 (by decide) (hB _ mw_65) (fun _ h9 => h9) rfl d_Map_matchingBlock_43 ?_
      refine lv_iload_n hx hb d_Map_matchingBlock_46 rfl (lv_at hl 3 rfl) ?_
      refine lv_iconst (v := (2 : Int32)) hx hb d_Map_matchingBlock_47 (by decide) ?_
      refine lv_iload hx hb d_Map_matchingBlock_48 (lv_at hl 0 rfl) ?_
      refine lv_imul hx hb d_Map_matchingBlock_50 ?_
      refine k_fold (4 : Int32) (by decide) ?_
      refine lv_iadd hx hb d_Map_matchingBlock_51 ?_
      refine k_cVi (As := [.int ((if p1 = (0 : Int32) then (16 : Int32) else (24 : Int32)) + (4 : Int32))]) (rest := []) (wr := [(aM, .inr (8, [.ref aW])), (aW, .inl (cW, 16384, .inl w)), (aQ, .inr (7, [.ref aM, .ref aS, .int en]))]) (wj := [(aM, .inr (8, [.ref aW])), (aW, .inl (cW, 16384, .inl w)), (aS, .inr (9, [.ref aG, .ref aX, .int nx, .int lt, .int sm, .int ex])), (aG, .inl (cG, 32, .inl g)), (aX, .inl (cX, 64, .inl sp)), (aQ, .inr (7, [.ref aM, .ref aS, .int en]))]) ⟨hx, hb, hml, hown, hB⟩ (c_Sta_read l D aS aG aX cG cX g sp nx lt sm ex ((if p1 = (0 : Int32) then (16 : Int32) else (24 : Int32)) + (4 : Int32))) yl_Sta_read mw_321 hK hN hP hD hS hA [1, 2] [2, 3, 4] [0, 1, 5] [0, 1, 3, 4, 5, 2] rfl rfl rfl rfl (by decide +kernel) 0 rfl rfl rfl rfl hl.1 rfl (Nat.le_of_ble_eq_true rfl) ⟨Nat.le_of_ble_eq_true rfl, Nat.le_of_ble_eq_true rfl⟩ d_Map_matchingBlock_52 ⟨Nat.le_of_ble_eq_true rfl, Nat.le_of_ble_eq_true rfl⟩ (fun H locs hP hD hS => ?_)
      refine lv_istore (lv' := [(6, .int (f_Sta_read ((if p1 = (0 : Int32) then (16 : Int32) else (24 : Int32)) + (4 : Int32)) sp)), (5, .int (2 : Int32)), (4, .int (if (f_Sta_has (1 : Int32) (16384 : Int32) sp) = (0 : Int32) then (2 : Int32) else (1 : Int32))), (3, .int (if p1 = (0 : Int32) then (16 : Int32) else (24 : Int32))), (0, .ref aQ), (1, .int p0), (2, .int p1)]) hx hb d_Map_matchingBlock_55 hl (by decide) rfl (fun ls hl => ?_)
      refine lv_iload hx hb d_Map_matchingBlock_57 (lv_at hl 0 rfl) ?_
      refine lv_iload hx hb d_Map_matchingBlock_59 (lv_at hl 2 rfl) ?_
      refine lv_iand hx hb d_Map_matchingBlock_61 ?_
      refine lv_if_eq (tgt := 91) hx hb d_Map_matchingBlock_62 (by decide) (fun (h16 : ((f_Sta_read ((if p1 = (0 : Int32) then (16 : Int32) else (24 : Int32)) + (4 : Int32)) sp) &&& (if (f_Sta_has (1 : Int32) (16384 : Int32) sp) = (0 : Int32) then (2 : Int32) else (1 : Int32))) = (0 : Int32)) => ?_) (fun (h16 : ¬ ((f_Sta_read ((if p1 = (0 : Int32) then (16 : Int32) else (24 : Int32)) + (4 : Int32)) sp) &&& (if (f_Sta_has (1 : Int32) (16384 : Int32) sp) = (0 : Int32) then (2 : Int32) else (1 : Int32))) = (0 : Int32)) => ?_)
      · refine lv_iinc (v := (3 : Int32)) (lv' := [(5, .int (3 : Int32)), (6, .int (f_Sta_read ((if p1 = (0 : Int32) then (16 : Int32) else (24 : Int32)) + (4 : Int32)) sp)), (4, .int (if (f_Sta_has (1 : Int32) (16384 : Int32) sp) = (0 : Int32) then (2 : Int32) else (1 : Int32))), (3, .int (if p1 = (0 : Int32) then (16 : Int32) else (24 : Int32))), (0, .ref aQ), (1, .int p0), (2, .int p1)]) hx hb d_Map_matchingBlock_91 hl (k := 1) rfl (by decide) (by decide) rfl (fun ls hl => ?_)
        refine lv_goto (tgt := 36) hx hb d_Map_matchingBlock_94 (by decide) ?_
        refine lv_iload hx hb d_Map_matchingBlock_36 (lv_at hl 0 rfl) ?_
        refine lv_iconst (v := (4 : Int32)) hx hb d_Map_matchingBlock_38 (by decide) ?_
        refine lv_icmp_ge (tgt := 97) hx hb d_Map_matchingBlock_39 (by decide) (fun h17 => ?_) (fun h17 => ?_)
        · exact absurd h17 (by decide)
        refine lv_aload_n hx hb d_Map_matchingBlock_42 rfl (lv_at hl 4 rfl) ?_
        refine va_get (D := D) (ci := 7) (v := .ref aS) (C := "MappedProcessor$Mapper") (T := T_Map) (N := 3) hx hb hB iw_Map hown hK hP 5 rfl rfl 1 (by decide) (hB _ mw_65) (fun _ h9 => h9) rfl d_Map_matchingBlock_43 ?_
        refine lv_iload_n hx hb d_Map_matchingBlock_46 rfl (lv_at hl 3 rfl) ?_
        refine lv_iconst (v := (2 : Int32)) hx hb d_Map_matchingBlock_47 (by decide) ?_
        refine lv_iload hx hb d_Map_matchingBlock_48 (lv_at hl 0 rfl) ?_
        refine lv_imul hx hb d_Map_matchingBlock_50 ?_
        refine k_fold (6 : Int32) (by decide) ?_
        refine lv_iadd hx hb d_Map_matchingBlock_51 ?_
        refine k_cVi (As := [.int ((if p1 = (0 : Int32) then (16 : Int32) else (24 : Int32)) + (6 : Int32))]) (rest := []) (wr := [(aM, .inr (8, [.ref aW])), (aW, .inl (cW, 16384, .inl w)), (aQ, .inr (7, [.ref aM, .ref aS, .int en]))]) (wj := [(aM, .inr (8, [.ref aW])), (aW, .inl (cW, 16384, .inl w)), (aS, .inr (9, [.ref aG, .ref aX, .int nx, .int lt, .int sm, .int ex])), (aG, .inl (cG, 32, .inl g)), (aX, .inl (cX, 64, .inl sp)), (aQ, .inr (7, [.ref aM, .ref aS, .int en]))]) ⟨hx, hb, hml, hown, hB⟩ (c_Sta_read l D aS aG aX cG cX g sp nx lt sm ex ((if p1 = (0 : Int32) then (16 : Int32) else (24 : Int32)) + (6 : Int32))) yl_Sta_read mw_321 hK hN hP hD hS hA [1, 2] [2, 3, 4] [0, 1, 5] [0, 1, 3, 4, 5, 2] rfl rfl rfl rfl (by decide +kernel) 0 rfl rfl rfl rfl hl.1 rfl (Nat.le_of_ble_eq_true rfl) ⟨Nat.le_of_ble_eq_true rfl, Nat.le_of_ble_eq_true rfl⟩ d_Map_matchingBlock_52 ⟨Nat.le_of_ble_eq_true rfl, Nat.le_of_ble_eq_true rfl⟩ (fun H locs hP hD hS => ?_)
        refine lv_istore (lv' := [(6, .int (f_Sta_read ((if p1 = (0 : Int32) then (16 : Int32) else (24 : Int32)) + (6 : Int32)) sp)), (5, .int (3 : Int32)), (4, .int (if (f_Sta_has (1 : Int32) (16384 : Int32) sp) = (0 : Int32) then (2 : Int32) else (1 : Int32))), (3, .int (if p1 = (0 : Int32) then (16 : Int32) else (24 : Int32))), (0, .ref aQ), (1, .int p0), (2, .int p1)]) hx hb d_Map_matchingBlock_55 hl (by decide) rfl (fun ls hl => ?_)
        refine lv_iload hx hb d_Map_matchingBlock_57 (lv_at hl 0 rfl) ?_
        refine lv_iload hx hb d_Map_matchingBlock_59 (lv_at hl 2 rfl) ?_
        refine lv_iand hx hb d_Map_matchingBlock_61 ?_
        refine lv_if_eq (tgt := 91) hx hb d_Map_matchingBlock_62 (by decide) (fun (h18 : ((f_Sta_read ((if p1 = (0 : Int32) then (16 : Int32) else (24 : Int32)) + (6 : Int32)) sp) &&& (if (f_Sta_has (1 : Int32) (16384 : Int32) sp) = (0 : Int32) then (2 : Int32) else (1 : Int32))) = (0 : Int32)) => ?_) (fun (h18 : ¬ ((f_Sta_read ((if p1 = (0 : Int32) then (16 : Int32) else (24 : Int32)) + (6 : Int32)) sp) &&& (if (f_Sta_has (1 : Int32) (16384 : Int32) sp) = (0 : Int32) then (2 : Int32) else (1 : Int32))) = (0 : Int32)) => ?_)
        · refine lv_iinc (v := (4 : Int32)) (lv' := [(5, .int (4 : Int32)), (6, .int (f_Sta_read ((if p1 = (0 : Int32) then (16 : Int32) else (24 : Int32)) + (6 : Int32)) sp)), (4, .int (if (f_Sta_has (1 : Int32) (16384 : Int32) sp) = (0 : Int32) then (2 : Int32) else (1 : Int32))), (3, .int (if p1 = (0 : Int32) then (16 : Int32) else (24 : Int32))), (0, .ref aQ), (1, .int p0), (2, .int p1)]) hx hb d_Map_matchingBlock_91 hl (k := 1) rfl (by decide) (by decide) rfl (fun ls hl => ?_)
          refine lv_goto (tgt := 36) hx hb d_Map_matchingBlock_94 (by decide) ?_
          refine lv_iload hx hb d_Map_matchingBlock_36 (lv_at hl 0 rfl) ?_
          refine lv_iconst (v := (4 : Int32)) hx hb d_Map_matchingBlock_38 (by decide) ?_
          refine lv_icmp_ge (tgt := 97) hx hb d_Map_matchingBlock_39 (by decide) (fun h19 => ?_) (fun h19 => ?_)
          rotate_left
          · exact absurd (by decide) h19
          refine lv_iconst (v := (-1 : Int32)) hx hb d_Map_matchingBlock_97 (by decide) ?_
          have ef : f_Map_matchingBlock p0 p1 sp = (-1 : Int32) := by unfold f_Map_matchingBlock; rw [if_pos h12, if_pos h14, if_pos h16, if_pos h18]
          exact k_iret hx hb hr hlocks hK hP hD hS [0, 1, 2, 3, 4, 5] rfl rfl (by rw [ef] <;> rfl) d_Map_matchingBlock_98
        · refine lv_iload_n hx hb d_Map_matchingBlock_65 rfl (lv_at hl 5 rfl) ?_
          refine lv_iload hx hb d_Map_matchingBlock_66 (lv_at hl 0 rfl) ?_
          refine lv_ixor hx hb d_Map_matchingBlock_68 ?_
          refine lv_sipush (v := (-8192 : Int32)) hx hb d_Map_matchingBlock_69 (by decide) ?_
          refine lv_iand hx hb d_Map_matchingBlock_72 ?_
          refine lv_iload hx hb d_Map_matchingBlock_73 (lv_at hl 0 rfl) ?_
          refine k_cSi (As := [.int (f_Sta_read ((if p1 = (0 : Int32) then (16 : Int32) else (24 : Int32)) + (6 : Int32)) sp)]) (rest := [.int ((p0 ^^^ (f_Sta_read ((if p1 = (0 : Int32) then (16 : Int32) else (24 : Int32)) + (6 : Int32)) sp)) &&& (-8192 : Int32))]) (wr := [(aM, .inr (8, [.ref aW])), (aW, .inl (cW, 16384, .inl w)), (aS, .inr (9, [.ref aG, .ref aX, .int nx, .int lt, .int sm, .int ex])), (aG, .inl (cG, 32, .inl g)), (aX, .inl (cX, 64, .inl sp)), (aQ, .inr (7, [.ref aM, .ref aS, .int en]))]) (wj := [(aM, .inr (8, [.ref aW])), (aW, .inl (cW, 16384, .inl w)), (aS, .inr (9, [.ref aG, .ref aX, .int nx, .int lt, .int sm, .int ex])), (aG, .inl (cG, 32, .inl g)), (aX, .inl (cX, 64, .inl sp)), (aQ, .inr (7, [.ref aM, .ref aS, .int en]))]) ⟨hx, hb, hml, hown, hB⟩ (c_Map_freeBits l D (f_Sta_read ((if p1 = (0 : Int32) then (16 : Int32) else (24 : Int32)) + (6 : Int32)) sp)) yl_Map_freeBits mw_322 hK hN hP hD hS hA [] [] [0, 1, 2, 3, 4, 5] [0, 1, 2, 3, 4, 5] rfl rfl rfl rfl (by decide +kernel) rfl hl.1 rfl (Nat.le_of_ble_eq_true rfl) ⟨Nat.le_of_ble_eq_true rfl, Nat.le_of_ble_eq_true rfl⟩ d_Map_matchingBlock_75 ⟨Nat.le_of_ble_eq_true rfl, Nat.le_of_ble_eq_true rfl⟩ (fun H locs hP hD hS => ?_)
          refine lv_iconst (v := (-1 : Int32)) hx hb d_Map_matchingBlock_78 (by decide) ?_
          refine lv_ixor hx hb d_Map_matchingBlock_79 ?_
          refine lv_iand hx hb d_Map_matchingBlock_80 ?_
          refine lv_if_ne (tgt := 91) hx hb d_Map_matchingBlock_81 (by decide) (fun (h20 : ¬ (((p0 ^^^ (f_Sta_read ((if p1 = (0 : Int32) then (16 : Int32) else (24 : Int32)) + (6 : Int32)) sp)) &&& (-8192 : Int32)) &&& ((f_Map_freeBits (f_Sta_read ((if p1 = (0 : Int32) then (16 : Int32) else (24 : Int32)) + (6 : Int32)) sp)) ^^^ (-1 : Int32))) = (0 : Int32)) => ?_) (fun (h20 : (((p0 ^^^ (f_Sta_read ((if p1 = (0 : Int32) then (16 : Int32) else (24 : Int32)) + (6 : Int32)) sp)) &&& (-8192 : Int32)) &&& ((f_Map_freeBits (f_Sta_read ((if p1 = (0 : Int32) then (16 : Int32) else (24 : Int32)) + (6 : Int32)) sp)) ^^^ (-1 : Int32))) = (0 : Int32)) => ?_)
          · refine lv_iinc (v := (4 : Int32)) (lv' := [(5, .int (4 : Int32)), (6, .int (f_Sta_read ((if p1 = (0 : Int32) then (16 : Int32) else (24 : Int32)) + (6 : Int32)) sp)), (4, .int (if (f_Sta_has (1 : Int32) (16384 : Int32) sp) = (0 : Int32) then (2 : Int32) else (1 : Int32))), (3, .int (if p1 = (0 : Int32) then (16 : Int32) else (24 : Int32))), (0, .ref aQ), (1, .int p0), (2, .int p1)]) hx hb d_Map_matchingBlock_91 hl (k := 1) rfl (by decide) (by decide) rfl (fun ls hl => ?_)
            refine lv_goto (tgt := 36) hx hb d_Map_matchingBlock_94 (by decide) ?_
            refine lv_iload hx hb d_Map_matchingBlock_36 (lv_at hl 0 rfl) ?_
            refine lv_iconst (v := (4 : Int32)) hx hb d_Map_matchingBlock_38 (by decide) ?_
            refine lv_icmp_ge (tgt := 97) hx hb d_Map_matchingBlock_39 (by decide) (fun h21 => ?_) (fun h21 => ?_)
            rotate_left
            · exact absurd (by decide) h21
            refine lv_iconst (v := (-1 : Int32)) hx hb d_Map_matchingBlock_97 (by decide) ?_
            have ef : f_Map_matchingBlock p0 p1 sp = (-1 : Int32) := by unfold f_Map_matchingBlock; rw [if_pos h12, if_pos h14, if_pos h16, if_neg h18, if_neg h20]
            exact k_iret hx hb hr hlocks hK hP hD hS [0, 1, 2, 3, 4, 5] rfl rfl (by rw [ef] <;> rfl) d_Map_matchingBlock_98
          · refine lv_iload_n hx hb d_Map_matchingBlock_84 rfl (lv_at hl 3 rfl) ?_
            refine lv_iconst (v := (2 : Int32)) hx hb d_Map_matchingBlock_85 (by decide) ?_
            refine lv_iload hx hb d_Map_matchingBlock_86 (lv_at hl 1 rfl) ?_
            refine lv_imul hx hb d_Map_matchingBlock_88 ?_
            refine k_fold (6 : Int32) (by decide) ?_
            refine lv_iadd hx hb d_Map_matchingBlock_89 ?_
            have ef : f_Map_matchingBlock p0 p1 sp = ((if p1 = (0 : Int32) then (16 : Int32) else (24 : Int32)) + (6 : Int32)) := by unfold f_Map_matchingBlock; rw [if_pos h12, if_pos h14, if_pos h16, if_neg h18, if_pos h20]
            exact k_iret hx hb hr hlocks hK hP hD hS [0, 1, 2, 3, 4, 5] rfl rfl (by rw [ef] <;> rfl) d_Map_matchingBlock_90
      · refine lv_iload_n hx hb d_Map_matchingBlock_65 rfl (lv_at hl 5 rfl) ?_
        refine lv_iload hx hb d_Map_matchingBlock_66 (lv_at hl 0 rfl) ?_
        refine lv_ixor hx hb d_Map_matchingBlock_68 ?_
        refine lv_sipush (v := (-8192 : Int32)) hx hb d_Map_matchingBlock_69 (by decide) ?_
        refine lv_iand hx hb d_Map_matchingBlock_72 ?_
        refine lv_iload hx hb d_Map_matchingBlock_73 (lv_at hl 0 rfl) ?_
        refine k_cSi (As := [.int (f_Sta_read ((if p1 = (0 : Int32) then (16 : Int32) else (24 : Int32)) + (4 : Int32)) sp)]) (rest := [.int ((p0 ^^^ (f_Sta_read ((if p1 = (0 : Int32) then (16 : Int32) else (24 : Int32)) + (4 : Int32)) sp)) &&& (-8192 : Int32))]) (wr := [(aM, .inr (8, [.ref aW])), (aW, .inl (cW, 16384, .inl w)), (aS, .inr (9, [.ref aG, .ref aX, .int nx, .int lt, .int sm, .int ex])), (aG, .inl (cG, 32, .inl g)), (aX, .inl (cX, 64, .inl sp)), (aQ, .inr (7, [.ref aM, .ref aS, .int en]))]) (wj := [(aM, .inr (8, [.ref aW])), (aW, .inl (cW, 16384, .inl w)), (aS, .inr (9, [.ref aG, .ref aX, .int nx, .int lt, .int sm, .int ex])), (aG, .inl (cG, 32, .inl g)), (aX, .inl (cX, 64, .inl sp)), (aQ, .inr (7, [.ref aM, .ref aS, .int en]))]) ⟨hx, hb, hml, hown, hB⟩ (c_Map_freeBits l D (f_Sta_read ((if p1 = (0 : Int32) then (16 : Int32) else (24 : Int32)) + (4 : Int32)) sp)) yl_Map_freeBits mw_322 hK hN hP hD hS hA [] [] [0, 1, 2, 3, 4, 5] [0, 1, 2, 3, 4, 5] rfl rfl rfl rfl (by decide +kernel) rfl hl.1 rfl (Nat.le_of_ble_eq_true rfl) ⟨Nat.le_of_ble_eq_true rfl, Nat.le_of_ble_eq_true rfl⟩ d_Map_matchingBlock_75 ⟨Nat.le_of_ble_eq_true rfl, Nat.le_of_ble_eq_true rfl⟩ (fun H locs hP hD hS => ?_)
        refine lv_iconst (v := (-1 : Int32)) hx hb d_Map_matchingBlock_78 (by decide) ?_
        refine lv_ixor hx hb d_Map_matchingBlock_79 ?_
        refine lv_iand hx hb d_Map_matchingBlock_80 ?_
        refine lv_if_ne (tgt := 91) hx hb d_Map_matchingBlock_81 (by decide) (fun (h22 : ¬ (((p0 ^^^ (f_Sta_read ((if p1 = (0 : Int32) then (16 : Int32) else (24 : Int32)) + (4 : Int32)) sp)) &&& (-8192 : Int32)) &&& ((f_Map_freeBits (f_Sta_read ((if p1 = (0 : Int32) then (16 : Int32) else (24 : Int32)) + (4 : Int32)) sp)) ^^^ (-1 : Int32))) = (0 : Int32)) => ?_) (fun (h22 : (((p0 ^^^ (f_Sta_read ((if p1 = (0 : Int32) then (16 : Int32) else (24 : Int32)) + (4 : Int32)) sp)) &&& (-8192 : Int32)) &&& ((f_Map_freeBits (f_Sta_read ((if p1 = (0 : Int32) then (16 : Int32) else (24 : Int32)) + (4 : Int32)) sp)) ^^^ (-1 : Int32))) = (0 : Int32)) => ?_)
        · refine lv_iinc (v := (3 : Int32)) (lv' := [(5, .int (3 : Int32)), (6, .int (f_Sta_read ((if p1 = (0 : Int32) then (16 : Int32) else (24 : Int32)) + (4 : Int32)) sp)), (4, .int (if (f_Sta_has (1 : Int32) (16384 : Int32) sp) = (0 : Int32) then (2 : Int32) else (1 : Int32))), (3, .int (if p1 = (0 : Int32) then (16 : Int32) else (24 : Int32))), (0, .ref aQ), (1, .int p0), (2, .int p1)]) hx hb d_Map_matchingBlock_91 hl (k := 1) rfl (by decide) (by decide) rfl (fun ls hl => ?_)
          refine lv_goto (tgt := 36) hx hb d_Map_matchingBlock_94 (by decide) ?_
          refine lv_iload hx hb d_Map_matchingBlock_36 (lv_at hl 0 rfl) ?_
          refine lv_iconst (v := (4 : Int32)) hx hb d_Map_matchingBlock_38 (by decide) ?_
          refine lv_icmp_ge (tgt := 97) hx hb d_Map_matchingBlock_39 (by decide) (fun h23 => ?_) (fun h23 => ?_)
          · exact absurd h23 (by decide)
          refine lv_aload_n hx hb d_Map_matchingBlock_42 rfl (lv_at hl 4 rfl) ?_
          refine va_get (D := D) (ci := 7) (v := .ref aS) (C := "MappedProcessor$Mapper") (T := T_Map) (N := 3) hx hb hB iw_Map hown hK hP 5 rfl rfl 1 (by decide) (hB _ mw_65) (fun _ h9 => h9) rfl d_Map_matchingBlock_43 ?_
          refine lv_iload_n hx hb d_Map_matchingBlock_46 rfl (lv_at hl 3 rfl) ?_
          refine lv_iconst (v := (2 : Int32)) hx hb d_Map_matchingBlock_47 (by decide) ?_
          refine lv_iload hx hb d_Map_matchingBlock_48 (lv_at hl 0 rfl) ?_
          refine lv_imul hx hb d_Map_matchingBlock_50 ?_
          refine k_fold (6 : Int32) (by decide) ?_
          refine lv_iadd hx hb d_Map_matchingBlock_51 ?_
          refine k_cVi (As := [.int ((if p1 = (0 : Int32) then (16 : Int32) else (24 : Int32)) + (6 : Int32))]) (rest := []) (wr := [(aM, .inr (8, [.ref aW])), (aW, .inl (cW, 16384, .inl w)), (aQ, .inr (7, [.ref aM, .ref aS, .int en]))]) (wj := [(aM, .inr (8, [.ref aW])), (aW, .inl (cW, 16384, .inl w)), (aS, .inr (9, [.ref aG, .ref aX, .int nx, .int lt, .int sm, .int ex])), (aG, .inl (cG, 32, .inl g)), (aX, .inl (cX, 64, .inl sp)), (aQ, .inr (7, [.ref aM, .ref aS, .int en]))]) ⟨hx, hb, hml, hown, hB⟩ (c_Sta_read l D aS aG aX cG cX g sp nx lt sm ex ((if p1 = (0 : Int32) then (16 : Int32) else (24 : Int32)) + (6 : Int32))) yl_Sta_read mw_321 hK hN hP hD hS hA [1, 2] [2, 3, 4] [0, 1, 5] [0, 1, 3, 4, 5, 2] rfl rfl rfl rfl (by decide +kernel) 0 rfl rfl rfl rfl hl.1 rfl (Nat.le_of_ble_eq_true rfl) ⟨Nat.le_of_ble_eq_true rfl, Nat.le_of_ble_eq_true rfl⟩ d_Map_matchingBlock_52 ⟨Nat.le_of_ble_eq_true rfl, Nat.le_of_ble_eq_true rfl⟩ (fun H locs hP hD hS => ?_)
          refine lv_istore (lv' := [(6, .int (f_Sta_read ((if p1 = (0 : Int32) then (16 : Int32) else (24 : Int32)) + (6 : Int32)) sp)), (5, .int (3 : Int32)), (4, .int (if (f_Sta_has (1 : Int32) (16384 : Int32) sp) = (0 : Int32) then (2 : Int32) else (1 : Int32))), (3, .int (if p1 = (0 : Int32) then (16 : Int32) else (24 : Int32))), (0, .ref aQ), (1, .int p0), (2, .int p1)]) hx hb d_Map_matchingBlock_55 hl (by decide) rfl (fun ls hl => ?_)
          refine lv_iload hx hb d_Map_matchingBlock_57 (lv_at hl 0 rfl) ?_
          refine lv_iload hx hb d_Map_matchingBlock_59 (lv_at hl 2 rfl) ?_
          refine lv_iand hx hb d_Map_matchingBlock_61 ?_
          refine lv_if_eq (tgt := 91) hx hb d_Map_matchingBlock_62 (by decide) (fun (h24 : ((f_Sta_read ((if p1 = (0 : Int32) then (16 : Int32) else (24 : Int32)) + (6 : Int32)) sp) &&& (if (f_Sta_has (1 : Int32) (16384 : Int32) sp) = (0 : Int32) then (2 : Int32) else (1 : Int32))) = (0 : Int32)) => ?_) (fun (h24 : ¬ ((f_Sta_read ((if p1 = (0 : Int32) then (16 : Int32) else (24 : Int32)) + (6 : Int32)) sp) &&& (if (f_Sta_has (1 : Int32) (16384 : Int32) sp) = (0 : Int32) then (2 : Int32) else (1 : Int32))) = (0 : Int32)) => ?_)
          · refine lv_iinc (v := (4 : Int32)) (lv' := [(5, .int (4 : Int32)), (6, .int (f_Sta_read ((if p1 = (0 : Int32) then (16 : Int32) else (24 : Int32)) + (6 : Int32)) sp)), (4, .int (if (f_Sta_has (1 : Int32) (16384 : Int32) sp) = (0 : Int32) then (2 : Int32) else (1 : Int32))), (3, .int (if p1 = (0 : Int32) then (16 : Int32) else (24 : Int32))), (0, .ref aQ), (1, .int p0), (2, .int p1)]) hx hb d_Map_matchingBlock_91 hl (k := 1) rfl (by decide) (by decide) rfl (fun ls hl => ?_)
            refine lv_goto (tgt := 36) hx hb d_Map_matchingBlock_94 (by decide) ?_
            refine lv_iload hx hb d_Map_matchingBlock_36 (lv_at hl 0 rfl) ?_
            refine lv_iconst (v := (4 : Int32)) hx hb d_Map_matchingBlock_38 (by decide) ?_
            refine lv_icmp_ge (tgt := 97) hx hb d_Map_matchingBlock_39 (by decide) (fun h25 => ?_) (fun h25 => ?_)
            rotate_left
            · exact absurd (by decide) h25
            refine lv_iconst (v := (-1 : Int32)) hx hb d_Map_matchingBlock_97 (by decide) ?_
            have ef : f_Map_matchingBlock p0 p1 sp = (-1 : Int32) := by unfold f_Map_matchingBlock; rw [if_pos h12, if_pos h14, if_neg h16, if_neg h22, if_pos h24]
            exact k_iret hx hb hr hlocks hK hP hD hS [0, 1, 2, 3, 4, 5] rfl rfl (by rw [ef] <;> rfl) d_Map_matchingBlock_98
          · refine lv_iload_n hx hb d_Map_matchingBlock_65 rfl (lv_at hl 5 rfl) ?_
            refine lv_iload hx hb d_Map_matchingBlock_66 (lv_at hl 0 rfl) ?_
            refine lv_ixor hx hb d_Map_matchingBlock_68 ?_
            refine lv_sipush (v := (-8192 : Int32)) hx hb d_Map_matchingBlock_69 (by decide) ?_
            refine lv_iand hx hb d_Map_matchingBlock_72 ?_
            refine lv_iload hx hb d_Map_matchingBlock_73 (lv_at hl 0 rfl) ?_
            refine k_cSi (As := [.int (f_Sta_read ((if p1 = (0 : Int32) then (16 : Int32) else (24 : Int32)) + (6 : Int32)) sp)]) (rest := [.int ((p0 ^^^ (f_Sta_read ((if p1 = (0 : Int32) then (16 : Int32) else (24 : Int32)) + (6 : Int32)) sp)) &&& (-8192 : Int32))]) (wr := [(aM, .inr (8, [.ref aW])), (aW, .inl (cW, 16384, .inl w)), (aS, .inr (9, [.ref aG, .ref aX, .int nx, .int lt, .int sm, .int ex])), (aG, .inl (cG, 32, .inl g)), (aX, .inl (cX, 64, .inl sp)), (aQ, .inr (7, [.ref aM, .ref aS, .int en]))]) (wj := [(aM, .inr (8, [.ref aW])), (aW, .inl (cW, 16384, .inl w)), (aS, .inr (9, [.ref aG, .ref aX, .int nx, .int lt, .int sm, .int ex])), (aG, .inl (cG, 32, .inl g)), (aX, .inl (cX, 64, .inl sp)), (aQ, .inr (7, [.ref aM, .ref aS, .int en]))]) ⟨hx, hb, hml, hown, hB⟩ (c_Map_freeBits l D (f_Sta_read ((if p1 = (0 : Int32) then (16 : Int32) else (24 : Int32)) + (6 : Int32)) sp)) yl_Map_freeBits mw_322 hK hN hP hD hS hA [] [] [0, 1, 2, 3, 4, 5] [0, 1, 2, 3, 4, 5] rfl rfl rfl rfl (by decide +kernel) rfl hl.1 rfl (Nat.le_of_ble_eq_true rfl) ⟨Nat.le_of_ble_eq_true rfl, Nat.le_of_ble_eq_true rfl⟩ d_Map_matchingBlock_75 ⟨Nat.le_of_ble_eq_true rfl, Nat.le_of_ble_eq_true rfl⟩ (fun H locs hP hD hS => ?_)
            refine lv_iconst (v := (-1 : Int32)) hx hb d_Map_matchingBlock_78 (by decide) ?_
            refine lv_ixor hx hb d_Map_matchingBlock_79 ?_
            refine lv_iand hx hb d_Map_matchingBlock_80 ?_
            refine lv_if_ne (tgt := 91) hx hb d_Map_matchingBlock_81 (by decide) (fun (h26 : ¬ (((p0 ^^^ (f_Sta_read ((if p1 = (0 : Int32) then (16 : Int32) else (24 : Int32)) + (6 : Int32)) sp)) &&& (-8192 : Int32)) &&& ((f_Map_freeBits (f_Sta_read ((if p1 = (0 : Int32) then (16 : Int32) else (24 : Int32)) + (6 : Int32)) sp)) ^^^ (-1 : Int32))) = (0 : Int32)) => ?_) (fun (h26 : (((p0 ^^^ (f_Sta_read ((if p1 = (0 : Int32) then (16 : Int32) else (24 : Int32)) + (6 : Int32)) sp)) &&& (-8192 : Int32)) &&& ((f_Map_freeBits (f_Sta_read ((if p1 = (0 : Int32) then (16 : Int32) else (24 : Int32)) + (6 : Int32)) sp)) ^^^ (-1 : Int32))) = (0 : Int32)) => ?_)
            · refine lv_iinc (v := (4 : Int32)) (lv' := [(5, .int (4 : Int32)), (6, .int (f_Sta_read ((if p1 = (0 : Int32) then (16 : Int32) else (24 : Int32)) + (6 : Int32)) sp)), (4, .int (if (f_Sta_has (1 : Int32) (16384 : Int32) sp) = (0 : Int32) then (2 : Int32) else (1 : Int32))), (3, .int (if p1 = (0 : Int32) then (16 : Int32) else (24 : Int32))), (0, .ref aQ), (1, .int p0), (2, .int p1)]) hx hb d_Map_matchingBlock_91 hl (k := 1) rfl (by decide) (by decide) rfl (fun ls hl => ?_)
              refine lv_goto (tgt := 36) hx hb d_Map_matchingBlock_94 (by decide) ?_
              refine lv_iload hx hb d_Map_matchingBlock_36 (lv_at hl 0 rfl) ?_
              refine lv_iconst (v := (4 : Int32)) hx hb d_Map_matchingBlock_38 (by decide) ?_
              refine lv_icmp_ge (tgt := 97) hx hb d_Map_matchingBlock_39 (by decide) (fun h27 => ?_) (fun h27 => ?_)
              rotate_left
              · exact absurd (by decide) h27
              refine lv_iconst (v := (-1 : Int32)) hx hb d_Map_matchingBlock_97 (by decide) ?_
              have ef : f_Map_matchingBlock p0 p1 sp = (-1 : Int32) := by unfold f_Map_matchingBlock; rw [if_pos h12, if_pos h14, if_neg h16, if_neg h22, if_neg h24, if_neg h26]
              exact k_iret hx hb hr hlocks hK hP hD hS [0, 1, 2, 3, 4, 5] rfl rfl (by rw [ef] <;> rfl) d_Map_matchingBlock_98
            · refine lv_iload_n hx hb d_Map_matchingBlock_84 rfl (lv_at hl 3 rfl) ?_
              refine lv_iconst (v := (2 : Int32)) hx hb d_Map_matchingBlock_85 (by decide) ?_
              refine lv_iload hx hb d_Map_matchingBlock_86 (lv_at hl 1 rfl) ?_
              refine lv_imul hx hb d_Map_matchingBlock_88 ?_
              refine k_fold (6 : Int32) (by decide) ?_
              refine lv_iadd hx hb d_Map_matchingBlock_89 ?_
              have ef : f_Map_matchingBlock p0 p1 sp = ((if p1 = (0 : Int32) then (16 : Int32) else (24 : Int32)) + (6 : Int32)) := by unfold f_Map_matchingBlock; rw [if_pos h12, if_pos h14, if_neg h16, if_neg h22, if_neg h24, if_pos h26]
              exact k_iret hx hb hr hlocks hK hP hD hS [0, 1, 2, 3, 4, 5] rfl rfl (by rw [ef] <;> rfl) d_Map_matchingBlock_90
        · refine lv_iload_n hx hb d_Map_matchingBlock_84 rfl (lv_at hl 3 rfl) ?_
          refine lv_iconst (v := (2 : Int32)) hx hb d_Map_matchingBlock_85 (by decide) ?_
          refine lv_iload hx hb d_Map_matchingBlock_86 (lv_at hl 1 rfl) ?_
          refine lv_imul hx hb d_Map_matchingBlock_88 ?_
          refine k_fold (4 : Int32) (by decide) ?_
          refine lv_iadd hx hb d_Map_matchingBlock_89 ?_
          have ef : f_Map_matchingBlock p0 p1 sp = ((if p1 = (0 : Int32) then (16 : Int32) else (24 : Int32)) + (4 : Int32)) := by unfold f_Map_matchingBlock; rw [if_pos h12, if_pos h14, if_neg h16, if_pos h22]
          exact k_iret hx hb hr hlocks hK hP hD hS [0, 1, 2, 3, 4, 5] rfl rfl (by rw [ef] <;> rfl) d_Map_matchingBlock_90
    · refine lv_iload_n hx hb d_Map_matchingBlock_65 rfl (lv_at hl 5 rfl) ?_
      refine lv_iload hx hb d_Map_matchingBlock_66 (lv_at hl 0 rfl) ?_
      refine lv_ixor hx hb d_Map_matchingBlock_68 ?_
      refine lv_sipush (v := (-8192 : Int32)) hx hb d_Map_matchingBlock_69 (by decide) ?_
      refine lv_iand hx hb d_Map_matchingBlock_72 ?_
      refine lv_iload hx hb d_Map_matchingBlock_73 (lv_at hl 0 rfl) ?_
      refine k_cSi (As := [.int (f_Sta_read ((if p1 = (0 : Int32) then (16 : Int32) else (24 : Int32)) + (2 : Int32)) sp)]) (rest := [.int ((p0 ^^^ (f_Sta_read ((if p1 = (0 : Int32) then (16 : Int32) else (24 : Int32)) + (2 : Int32)) sp)) &&& (-8192 : Int32))]) (wr := [(aM, .inr (8, [.ref aW])), (aW, .inl (cW, 16384, .inl w)), (aS, .inr (9, [.ref aG, .ref aX, .int nx, .int lt, .int sm, .int ex])), (aG, .inl (cG, 32, .inl g)), (aX, .inl (cX, 64, .inl sp)), (aQ, .inr (7, [.ref aM, .ref aS, .int en]))]) (wj := [(aM, .inr (8, [.ref aW])), (aW, .inl (cW, 16384, .inl w)), (aS, .inr (9, [.ref aG, .ref aX, .int nx, .int lt, .int sm, .int ex])), (aG, .inl (cG, 32, .inl g)), (aX, .inl (cX, 64, .inl sp)), (aQ, .inr (7, [.ref aM, .ref aS, .int en]))]) ⟨hx, hb, hml, hown, hB⟩ (c_Map_freeBits l D (f_Sta_read ((if p1 = (0 : Int32) then (16 : Int32) else (24 : Int32)) + (2 : Int32)) sp)) yl_Map_freeBits mw_322 hK hN hP hD hS hA [] [] [0, 1, 2, 3, 4, 5] [0, 1, 2, 3, 4, 5] rfl rfl rfl rfl (by decide +kernel) rfl hl.1 rfl (Nat.le_of_ble_eq_true rfl) ⟨Nat.le_of_ble_eq_true rfl, Nat.le_of_ble_eq_true rfl⟩ d_Map_matchingBlock_75 ⟨Nat.le_of_ble_eq_true rfl, Nat.le_of_ble_eq_true rfl⟩ (fun H locs hP hD hS => ?_)
      refine lv_iconst (v := (-1 : Int32)) hx hb d_Map_matchingBlock_78 (by decide) ?_
      refine lv_ixor hx hb d_Map_matchingBlock_79 ?_
      refine lv_iand hx hb d_Map_matchingBlock_80 ?_
      refine lv_if_ne (tgt := 91) hx hb d_Map_matchingBlock_81 (by decide) (fun (h28 : ¬ (((p0 ^^^ (f_Sta_read ((if p1 = (0 : Int32) then (16 : Int32) else (24 : Int32)) + (2 : Int32)) sp)) &&& (-8192 : Int32)) &&& ((f_Map_freeBits (f_Sta_read ((if p1 = (0 : Int32) then (16 : Int32) else (24 : Int32)) + (2 : Int32)) sp)) ^^^ (-1 : Int32))) = (0 : Int32)) => ?_) (fun (h28 : (((p0 ^^^ (f_Sta_read ((if p1 = (0 : Int32) then (16 : Int32) else (24 : Int32)) + (2 : Int32)) sp)) &&& (-8192 : Int32)) &&& ((f_Map_freeBits (f_Sta_read ((if p1 = (0 : Int32) then (16 : Int32) else (24 : Int32)) + (2 : Int32)) sp)) ^^^ (-1 : Int32))) = (0 : Int32)) => ?_)
      · refine lv_iinc (v := (2 : Int32)) (lv' := [(5, .int (2 : Int32)), (6, .int (f_Sta_read ((if p1 = (0 : Int32) then (16 : Int32) else (24 : Int32)) + (2 : Int32)) sp)), (4, .int (if (f_Sta_has (1 : Int32) (16384 : Int32) sp) = (0 : Int32) then (2 : Int32) else (1 : Int32))), (3, .int (if p1 = (0 : Int32) then (16 : Int32) else (24 : Int32))), (0, .ref aQ), (1, .int p0), (2, .int p1)]) hx hb d_Map_matchingBlock_91 hl (k := 1) rfl (by decide) (by decide) rfl (fun ls hl => ?_)
        refine lv_goto (tgt := 36) hx hb d_Map_matchingBlock_94 (by decide) ?_
        refine lv_iload hx hb d_Map_matchingBlock_36 (lv_at hl 0 rfl) ?_
        refine lv_iconst (v := (4 : Int32)) hx hb d_Map_matchingBlock_38 (by decide) ?_
        refine lv_icmp_ge (tgt := 97) hx hb d_Map_matchingBlock_39 (by decide) (fun h29 => ?_) (fun h29 => ?_)
        · exact absurd h29 (by decide)
        refine lv_aload_n hx hb d_Map_matchingBlock_42 rfl (lv_at hl 4 rfl) ?_
        refine va_get (D := D) (ci := 7) (v := .ref aS) (C := "MappedProcessor$Mapper") (T := T_Map) (N := 3) hx hb hB iw_Map hown hK hP 5 rfl rfl 1 (by decide) (hB _ mw_65) (fun _ h9 => h9) rfl d_Map_matchingBlock_43 ?_
        refine lv_iload_n hx hb d_Map_matchingBlock_46 rfl (lv_at hl 3 rfl) ?_
        refine lv_iconst (v := (2 : Int32)) hx hb d_Map_matchingBlock_47 (by decide) ?_
        refine lv_iload hx hb d_Map_matchingBlock_48 (lv_at hl 0 rfl) ?_
        refine lv_imul hx hb d_Map_matchingBlock_50 ?_
        refine k_fold (4 : Int32) (by decide) ?_
        refine lv_iadd hx hb d_Map_matchingBlock_51 ?_
        refine k_cVi (As := [.int ((if p1 = (0 : Int32) then (16 : Int32) else (24 : Int32)) + (4 : Int32))]) (rest := []) (wr := [(aM, .inr (8, [.ref aW])), (aW, .inl (cW, 16384, .inl w)), (aQ, .inr (7, [.ref aM, .ref aS, .int en]))]) (wj := [(aM, .inr (8, [.ref aW])), (aW, .inl (cW, 16384, .inl w)), (aS, .inr (9, [.ref aG, .ref aX, .int nx, .int lt, .int sm, .int ex])), (aG, .inl (cG, 32, .inl g)), (aX, .inl (cX, 64, .inl sp)), (aQ, .inr (7, [.ref aM, .ref aS, .int en]))]) ⟨hx, hb, hml, hown, hB⟩ (c_Sta_read l D aS aG aX cG cX g sp nx lt sm ex ((if p1 = (0 : Int32) then (16 : Int32) else (24 : Int32)) + (4 : Int32))) yl_Sta_read mw_321 hK hN hP hD hS hA [1, 2] [2, 3, 4] [0, 1, 5] [0, 1, 3, 4, 5, 2] rfl rfl rfl rfl (by decide +kernel) 0 rfl rfl rfl rfl hl.1 rfl (Nat.le_of_ble_eq_true rfl) ⟨Nat.le_of_ble_eq_true rfl, Nat.le_of_ble_eq_true rfl⟩ d_Map_matchingBlock_52 ⟨Nat.le_of_ble_eq_true rfl, Nat.le_of_ble_eq_true rfl⟩ (fun H locs hP hD hS => ?_)
        refine lv_istore (lv' := [(6, .int (f_Sta_read ((if p1 = (0 : Int32) then (16 : Int32) else (24 : Int32)) + (4 : Int32)) sp)), (5, .int (2 : Int32)), (4, .int (if (f_Sta_has (1 : Int32) (16384 : Int32) sp) = (0 : Int32) then (2 : Int32) else (1 : Int32))), (3, .int (if p1 = (0 : Int32) then (16 : Int32) else (24 : Int32))), (0, .ref aQ), (1, .int p0), (2, .int p1)]) hx hb d_Map_matchingBlock_55 hl (by decide) rfl (fun ls hl => ?_)
        refine lv_iload hx hb d_Map_matchingBlock_57 (lv_at hl 0 rfl) ?_
        refine lv_iload hx hb d_Map_matchingBlock_59 (lv_at hl 2 rfl) ?_
        refine lv_iand hx hb d_Map_matchingBlock_61 ?_
        refine lv_if_eq (tgt := 91) hx hb d_Map_matchingBlock_62 (by decide) (fun (h30 : ((f_Sta_read ((if p1 = (0 : Int32) then (16 : Int32) else (24 : Int32)) + (4 : Int32)) sp) &&& (if (f_Sta_has (1 : Int32) (16384 : Int32) sp) = (0 : Int32) then (2 : Int32) else (1 : Int32))) = (0 : Int32)) => ?_) (fun (h30 : ¬ ((f_Sta_read ((if p1 = (0 : Int32) then (16 : Int32) else (24 : Int32)) + (4 : Int32)) sp) &&& (if (f_Sta_has (1 : Int32) (16384 : Int32) sp) = (0 : Int32) then (2 : Int32) else (1 : Int32))) = (0 : Int32)) => ?_)
        · refine lv_iinc (v := (3 : Int32)) (lv' := [(5, .int (3 : Int32)), (6, .int (f_Sta_read ((if p1 = (0 : Int32) then (16 : Int32) else (24 : Int32)) + (4 : Int32)) sp)), (4, .int (if (f_Sta_has (1 : Int32) (16384 : Int32) sp) = (0 : Int32) then (2 : Int32) else (1 : Int32))), (3, .int (if p1 = (0 : Int32) then (16 : Int32) else (24 : Int32))), (0, .ref aQ), (1, .int p0), (2, .int p1)]) hx hb d_Map_matchingBlock_91 hl (k := 1) rfl (by decide) (by decide) rfl (fun ls hl => ?_)
          refine lv_goto (tgt := 36) hx hb d_Map_matchingBlock_94 (by decide) ?_
          refine lv_iload hx hb d_Map_matchingBlock_36 (lv_at hl 0 rfl) ?_
          refine lv_iconst (v := (4 : Int32)) hx hb d_Map_matchingBlock_38 (by decide) ?_
          refine lv_icmp_ge (tgt := 97) hx hb d_Map_matchingBlock_39 (by decide) (fun h31 => ?_) (fun h31 => ?_)
          · exact absurd h31 (by decide)
          refine lv_aload_n hx hb d_Map_matchingBlock_42 rfl (lv_at hl 4 rfl) ?_
          refine va_get (D := D) (ci := 7) (v := .ref aS) (C := "MappedProcessor$Mapper") (T := T_Map) (N := 3) hx hb hB iw_Map hown hK hP 5 rfl rfl 1 (by decide) (hB _ mw_65) (fun _ h9 => h9) rfl d_Map_matchingBlock_43 ?_
          refine lv_iload_n hx hb d_Map_matchingBlock_46 rfl (lv_at hl 3 rfl) ?_
          refine lv_iconst (v := (2 : Int32)) hx hb d_Map_matchingBlock_47 (by decide) ?_
          refine lv_iload hx hb d_Map_matchingBlock_48 (lv_at hl 0 rfl) ?_
          refine lv_imul hx hb d_Map_matchingBlock_50 ?_
          refine k_fold (6 : Int32) (by decide) ?_
          refine lv_iadd hx hb d_Map_matchingBlock_51 ?_
          refine k_cVi (As := [.int ((if p1 = (0 : Int32) then (16 : Int32) else (24 : Int32)) + (6 : Int32))]) (rest := []) (wr := [(aM, .inr (8, [.ref aW])), (aW, .inl (cW, 16384, .inl w)), (aQ, .inr (7, [.ref aM, .ref aS, .int en]))]) (wj := [(aM, .inr (8, [.ref aW])), (aW, .inl (cW, 16384, .inl w)), (aS, .inr (9, [.ref aG, .ref aX, .int nx, .int lt, .int sm, .int ex])), (aG, .inl (cG, 32, .inl g)), (aX, .inl (cX, 64, .inl sp)), (aQ, .inr (7, [.ref aM, .ref aS, .int en]))]) ⟨hx, hb, hml, hown, hB⟩ (c_Sta_read l D aS aG aX cG cX g sp nx lt sm ex ((if p1 = (0 : Int32) then (16 : Int32) else (24 : Int32)) + (6 : Int32))) yl_Sta_read mw_321 hK hN hP hD hS hA [1, 2] [2, 3, 4] [0, 1, 5] [0, 1, 3, 4, 5, 2] rfl rfl rfl rfl (by decide +kernel) 0 rfl rfl rfl rfl hl.1 rfl (Nat.le_of_ble_eq_true rfl) ⟨Nat.le_of_ble_eq_true rfl, Nat.le_of_ble_eq_true rfl⟩ d_Map_matchingBlock_52 ⟨Nat.le_of_ble_eq_true rfl, Nat.le_of_ble_eq_true rfl⟩ (fun H locs hP hD hS => ?_)
          refine lv_istore (lv' := [(6, .int (f_Sta_read ((if p1 = (0 : Int32) then (16 : Int32) else (24 : Int32)) + (6 : Int32)) sp)), (5, .int (3 : Int32)), (4, .int (if (f_Sta_has (1 : Int32) (16384 : Int32) sp) = (0 : Int32) then (2 : Int32) else (1 : Int32))), (3, .int (if p1 = (0 : Int32) then (16 : Int32) else (24 : Int32))), (0, .ref aQ), (1, .int p0), (2, .int p1)]) hx hb d_Map_matchingBlock_55 hl (by decide) rfl (fun ls hl => ?_)
          refine lv_iload hx hb d_Map_matchingBlock_57 (lv_at hl 0 rfl) ?_
          refine lv_iload hx hb d_Map_matchingBlock_59 (lv_at hl 2 rfl) ?_
          refine lv_iand hx hb d_Map_matchingBlock_61 ?_
          refine lv_if_eq (tgt := 91) hx hb d_Map_matchingBlock_62 (by decide) (fun (h32 : ((f_Sta_read ((if p1 = (0 : Int32) then (16 : Int32) else (24 : Int32)) + (6 : Int32)) sp) &&& (if (f_Sta_has (1 : Int32) (16384 : Int32) sp) = (0 : Int32) then (2 : Int32) else (1 : Int32))) = (0 : Int32)) => ?_) (fun (h32 : ¬ ((f_Sta_read ((if p1 = (0 : Int32) then (16 : Int32) else (24 : Int32)) + (6 : Int32)) sp) &&& (if (f_Sta_has (1 : Int32) (16384 : Int32) sp) = (0 : Int32) then (2 : Int32) else (1 : Int32))) = (0 : Int32)) => ?_)
          · refine lv_iinc (v := (4 : Int32)) (lv' := [(5, .int (4 : Int32)), (6, .int (f_Sta_read ((if p1 = (0 : Int32) then (16 : Int32) else (24 : Int32)) + (6 : Int32)) sp)), (4, .int (if (f_Sta_has (1 : Int32) (16384 : Int32) sp) = (0 : Int32) then (2 : Int32) else (1 : Int32))), (3, .int (if p1 = (0 : Int32) then (16 : Int32) else (24 : Int32))), (0, .ref aQ), (1, .int p0), (2, .int p1)]) hx hb d_Map_matchingBlock_91 hl (k := 1) rfl (by decide) (by decide) rfl (fun ls hl => ?_)
            refine lv_goto (tgt := 36) hx hb d_Map_matchingBlock_94 (by decide) ?_
            refine lv_iload hx hb d_Map_matchingBlock_36 (lv_at hl 0 rfl) ?_
            refine lv_iconst (v := (4 : Int32)) hx hb d_Map_matchingBlock_38 (by decide) ?_
            refine lv_icmp_ge (tgt := 97) hx hb d_Map_matchingBlock_39 (by decide) (fun h33 => ?_) (fun h33 => ?_)
            rotate_left
            · exact absurd (by decide) h33
            refine lv_iconst (v := (-1 : Int32)) hx hb d_Map_matchingBlock_97 (by decide) ?_
            have ef : f_Map_matchingBlock p0 p1 sp = (-1 : Int32) := by unfold f_Map_matchingBlock; rw [if_pos h12, if_neg h14, if_neg h28, if_pos h30, if_pos h32]
            exact k_iret hx hb hr hlocks hK hP hD hS [0, 1, 2, 3, 4, 5] rfl rfl (by rw [ef] <;> rfl) d_Map_matchingBlock_98
          · refine lv_iload_n hx hb d_Map_matchingBlock_65 rfl (lv_at hl 5 rfl) ?_
            refine lv_iload hx hb d_Map_matchingBlock_66 (lv_at hl 0 rfl) ?_
            refine lv_ixor hx hb d_Map_matchingBlock_68 ?_
            refine lv_sipush (v := (-8192 : Int32)) hx hb d_Map_matchingBlock_69 (by decide) ?_
            refine lv_iand hx hb d_Map_matchingBlock_72 ?_
            refine lv_iload hx hb d_Map_matchingBlock_73 (lv_at hl 0 rfl) ?_
            refine k_cSi (As := [.int (f_Sta_read ((if p1 = (0 : Int32) then (16 : Int32) else (24 : Int32)) + (6 : Int32)) sp)]) (rest := [.int ((p0 ^^^ (f_Sta_read ((if p1 = (0 : Int32) then (16 : Int32) else (24 : Int32)) + (6 : Int32)) sp)) &&& (-8192 : Int32))]) (wr := [(aM, .inr (8, [.ref aW])), (aW, .inl (cW, 16384, .inl w)), (aS, .inr (9, [.ref aG, .ref aX, .int nx, .int lt, .int sm, .int ex])), (aG, .inl (cG, 32, .inl g)), (aX, .inl (cX, 64, .inl sp)), (aQ, .inr (7, [.ref aM, .ref aS, .int en]))]) (wj := [(aM, .inr (8, [.ref aW])), (aW, .inl (cW, 16384, .inl w)), (aS, .inr (9, [.ref aG, .ref aX, .int nx, .int lt, .int sm, .int ex])), (aG, .inl (cG, 32, .inl g)), (aX, .inl (cX, 64, .inl sp)), (aQ, .inr (7, [.ref aM, .ref aS, .int en]))]) ⟨hx, hb, hml, hown, hB⟩ (c_Map_freeBits l D (f_Sta_read ((if p1 = (0 : Int32) then (16 : Int32) else (24 : Int32)) + (6 : Int32)) sp)) yl_Map_freeBits mw_322 hK hN hP hD hS hA [] [] [0, 1, 2, 3, 4, 5] [0, 1, 2, 3, 4, 5] rfl rfl rfl rfl (by decide +kernel) rfl hl.1 rfl (Nat.le_of_ble_eq_true rfl) ⟨Nat.le_of_ble_eq_true rfl, Nat.le_of_ble_eq_true rfl⟩ d_Map_matchingBlock_75 ⟨Nat.le_of_ble_eq_true rfl, Nat.le_of_ble_eq_true rfl⟩ (fun H locs hP hD hS => ?_)
            refine lv_iconst (v := (-1 : Int32)) hx hb d_Map_matchingBlock_78 (by decide) ?_
            refine lv_ixor hx hb d_Map_matchingBlock_79 ?_
            refine lv_iand hx hb d_Map_matchingBlock_80 ?_
            refine lv_if_ne (tgt := 91) hx hb d_Map_matchingBlock_81 (by decide) (fun (h34 : ¬ (((p0 ^^^ (f_Sta_read ((if p1 = (0 : Int32) then (16 : Int32) else (24 : Int32)) + (6 : Int32)) sp)) &&& (-8192 : Int32)) &&& ((f_Map_freeBits (f_Sta_read ((if p1 = (0 : Int32) then (16 : Int32) else (24 : Int32)) + (6 : Int32)) sp)) ^^^ (-1 : Int32))) = (0 : Int32)) => ?_) (fun (h34 : (((p0 ^^^ (f_Sta_read ((if p1 = (0 : Int32) then (16 : Int32) else (24 : Int32)) + (6 : Int32)) sp)) &&& (-8192 : Int32)) &&& ((f_Map_freeBits (f_Sta_read ((if p1 = (0 : Int32) then (16 : Int32) else (24 : Int32)) + (6 : Int32)) sp)) ^^^ (-1 : Int32))) = (0 : Int32)) => ?_)
            · refine lv_iinc (v := (4 : Int32)) (lv' := [(5, .int (4 : Int32)), (6, .int (f_Sta_read ((if p1 = (0 : Int32) then (16 : Int32) else (24 : Int32)) + (6 : Int32)) sp)), (4, .int (if (f_Sta_has (1 : Int32) (16384 : Int32) sp) = (0 : Int32) then (2 : Int32) else (1 : Int32))), (3, .int (if p1 = (0 : Int32) then (16 : Int32) else (24 : Int32))), (0, .ref aQ), (1, .int p0), (2, .int p1)]) hx hb d_Map_matchingBlock_91 hl (k := 1) rfl (by decide) (by decide) rfl (fun ls hl => ?_)
              refine lv_goto (tgt := 36) hx hb d_Map_matchingBlock_94 (by decide) ?_
              refine lv_iload hx hb d_Map_matchingBlock_36 (lv_at hl 0 rfl) ?_
              refine lv_iconst (v := (4 : Int32)) hx hb d_Map_matchingBlock_38 (by decide) ?_
              refine lv_icmp_ge (tgt := 97) hx hb d_Map_matchingBlock_39 (by decide) (fun h35 => ?_) (fun h35 => ?_)
              rotate_left
              · exact absurd (by decide) h35
              refine lv_iconst (v := (-1 : Int32)) hx hb d_Map_matchingBlock_97 (by decide) ?_
              have ef : f_Map_matchingBlock p0 p1 sp = (-1 : Int32) := by unfold f_Map_matchingBlock; rw [if_pos h12, if_neg h14, if_neg h28, if_pos h30, if_neg h32, if_neg h34]
              exact k_iret hx hb hr hlocks hK hP hD hS [0, 1, 2, 3, 4, 5] rfl rfl (by rw [ef] <;> rfl) d_Map_matchingBlock_98
            · refine lv_iload_n hx hb d_Map_matchingBlock_84 rfl (lv_at hl 3 rfl) ?_
              refine lv_iconst (v := (2 : Int32)) hx hb d_Map_matchingBlock_85 (by decide) ?_
              refine lv_iload hx hb d_Map_matchingBlock_86 (lv_at hl 1 rfl) ?_
              refine lv_imul hx hb d_Map_matchingBlock_88 ?_
              refine k_fold (6 : Int32) (by decide) ?_
              refine lv_iadd hx hb d_Map_matchingBlock_89 ?_
              have ef : f_Map_matchingBlock p0 p1 sp = ((if p1 = (0 : Int32) then (16 : Int32) else (24 : Int32)) + (6 : Int32)) := by unfold f_Map_matchingBlock; rw [if_pos h12, if_neg h14, if_neg h28, if_pos h30, if_neg h32, if_pos h34]
              exact k_iret hx hb hr hlocks hK hP hD hS [0, 1, 2, 3, 4, 5] rfl rfl (by rw [ef] <;> rfl) d_Map_matchingBlock_90
        · refine lv_iload_n hx hb d_Map_matchingBlock_65 rfl (lv_at hl 5 rfl) ?_
          refine lv_iload hx hb d_Map_matchingBlock_66 (lv_at hl 0 rfl) ?_
          refine lv_ixor hx hb d_Map_matchingBlock_68 ?_
          refine lv_sipush (v := (-8192 : Int32)) hx hb d_Map_matchingBlock_69 (by decide) ?_
          refine lv_iand hx hb d_Map_matchingBlock_72 ?_
          refine lv_iload hx hb d_Map_matchingBlock_73 (lv_at hl 0 rfl) ?_
          refine k_cSi (As := [.int (f_Sta_read ((if p1 = (0 : Int32) then (16 : Int32) else (24 : Int32)) + (4 : Int32)) sp)]) (rest := [.int ((p0 ^^^ (f_Sta_read ((if p1 = (0 : Int32) then (16 : Int32) else (24 : Int32)) + (4 : Int32)) sp)) &&& (-8192 : Int32))]) (wr := [(aM, .inr (8, [.ref aW])), (aW, .inl (cW, 16384, .inl w)), (aS, .inr (9, [.ref aG, .ref aX, .int nx, .int lt, .int sm, .int ex])), (aG, .inl (cG, 32, .inl g)), (aX, .inl (cX, 64, .inl sp)), (aQ, .inr (7, [.ref aM, .ref aS, .int en]))]) (wj := [(aM, .inr (8, [.ref aW])), (aW, .inl (cW, 16384, .inl w)), (aS, .inr (9, [.ref aG, .ref aX, .int nx, .int lt, .int sm, .int ex])), (aG, .inl (cG, 32, .inl g)), (aX, .inl (cX, 64, .inl sp)), (aQ, .inr (7, [.ref aM, .ref aS, .int en]))]) ⟨hx, hb, hml, hown, hB⟩ (c_Map_freeBits l D (f_Sta_read ((if p1 = (0 : Int32) then (16 : Int32) else (24 : Int32)) + (4 : Int32)) sp)) yl_Map_freeBits mw_322 hK hN hP hD hS hA [] [] [0, 1, 2, 3, 4, 5] [0, 1, 2, 3, 4, 5] rfl rfl rfl rfl (by decide +kernel) rfl hl.1 rfl (Nat.le_of_ble_eq_true rfl) ⟨Nat.le_of_ble_eq_true rfl, Nat.le_of_ble_eq_true rfl⟩ d_Map_matchingBlock_75 ⟨Nat.le_of_ble_eq_true rfl, Nat.le_of_ble_eq_true rfl⟩ (fun H locs hP hD hS => ?_)
          refine lv_iconst (v := (-1 : Int32)) hx hb d_Map_matchingBlock_78 (by decide) ?_
          refine lv_ixor hx hb d_Map_matchingBlock_79 ?_
          refine lv_iand hx hb d_Map_matchingBlock_80 ?_
          refine lv_if_ne (tgt := 91) hx hb d_Map_matchingBlock_81 (by decide) (fun (h36 : ¬ (((p0 ^^^ (f_Sta_read ((if p1 = (0 : Int32) then (16 : Int32) else (24 : Int32)) + (4 : Int32)) sp)) &&& (-8192 : Int32)) &&& ((f_Map_freeBits (f_Sta_read ((if p1 = (0 : Int32) then (16 : Int32) else (24 : Int32)) + (4 : Int32)) sp)) ^^^ (-1 : Int32))) = (0 : Int32)) => ?_) (fun (h36 : (((p0 ^^^ (f_Sta_read ((if p1 = (0 : Int32) then (16 : Int32) else (24 : Int32)) + (4 : Int32)) sp)) &&& (-8192 : Int32)) &&& ((f_Map_freeBits (f_Sta_read ((if p1 = (0 : Int32) then (16 : Int32) else (24 : Int32)) + (4 : Int32)) sp)) ^^^ (-1 : Int32))) = (0 : Int32)) => ?_)
          · refine lv_iinc (v := (3 : Int32)) (lv' := [(5, .int (3 : Int32)), (6, .int (f_Sta_read ((if p1 = (0 : Int32) then (16 : Int32) else (24 : Int32)) + (4 : Int32)) sp)), (4, .int (if (f_Sta_has (1 : Int32) (16384 : Int32) sp) = (0 : Int32) then (2 : Int32) else (1 : Int32))), (3, .int (if p1 = (0 : Int32) then (16 : Int32) else (24 : Int32))), (0, .ref aQ), (1, .int p0), (2, .int p1)]) hx hb d_Map_matchingBlock_91 hl (k := 1) rfl (by decide) (by decide) rfl (fun ls hl => ?_)
            refine lv_goto (tgt := 36) hx hb d_Map_matchingBlock_94 (by decide) ?_
            refine lv_iload hx hb d_Map_matchingBlock_36 (lv_at hl 0 rfl) ?_
            refine lv_iconst (v := (4 : Int32)) hx hb d_Map_matchingBlock_38 (by decide) ?_
            refine lv_icmp_ge (tgt := 97) hx hb d_Map_matchingBlock_39 (by decide) (fun h37 => ?_) (fun h37 => ?_)
            · exact absurd h37 (by decide)
            refine lv_aload_n hx hb d_Map_matchingBlock_42 rfl (lv_at hl 4 rfl) ?_
            refine va_get (D := D) (ci := 7) (v := .ref aS) (C := "MappedProcessor$Mapper") (T := T_Map) (N := 3) hx hb hB iw_Map hown hK hP 5 rfl rfl 1 (by decide) (hB _ mw_65) (fun _ h9 => h9) rfl d_Map_matchingBlock_43 ?_
            refine lv_iload_n hx hb d_Map_matchingBlock_46 rfl (lv_at hl 3 rfl) ?_
            refine lv_iconst (v := (2 : Int32)) hx hb d_Map_matchingBlock_47 (by decide) ?_
            refine lv_iload hx hb d_Map_matchingBlock_48 (lv_at hl 0 rfl) ?_
            refine lv_imul hx hb d_Map_matchingBlock_50 ?_
            refine k_fold (6 : Int32) (by decide) ?_
            refine lv_iadd hx hb d_Map_matchingBlock_51 ?_
            refine k_cVi (As := [.int ((if p1 = (0 : Int32) then (16 : Int32) else (24 : Int32)) + (6 : Int32))]) (rest := []) (wr := [(aM, .inr (8, [.ref aW])), (aW, .inl (cW, 16384, .inl w)), (aQ, .inr (7, [.ref aM, .ref aS, .int en]))]) (wj := [(aM, .inr (8, [.ref aW])), (aW, .inl (cW, 16384, .inl w)), (aS, .inr (9, [.ref aG, .ref aX, .int nx, .int lt, .int sm, .int ex])), (aG, .inl (cG, 32, .inl g)), (aX, .inl (cX, 64, .inl sp)), (aQ, .inr (7, [.ref aM, .ref aS, .int en]))]) ⟨hx, hb, hml, hown, hB⟩ (c_Sta_read l D aS aG aX cG cX g sp nx lt sm ex ((if p1 = (0 : Int32) then (16 : Int32) else (24 : Int32)) + (6 : Int32))) yl_Sta_read mw_321 hK hN hP hD hS hA [1, 2] [2, 3, 4] [0, 1, 5] [0, 1, 3, 4, 5, 2] rfl rfl rfl rfl (by decide +kernel) 0 rfl rfl rfl rfl hl.1 rfl (Nat.le_of_ble_eq_true rfl) ⟨Nat.le_of_ble_eq_true rfl, Nat.le_of_ble_eq_true rfl⟩ d_Map_matchingBlock_52 ⟨Nat.le_of_ble_eq_true rfl, Nat.le_of_ble_eq_true rfl⟩ (fun H locs hP hD hS => ?_)
            refine lv_istore (lv' := [(6, .int (f_Sta_read ((if p1 = (0 : Int32) then (16 : Int32) else (24 : Int32)) + (6 : Int32)) sp)), (5, .int (3 : Int32)), (4, .int (if (f_Sta_has (1 : Int32) (16384 : Int32) sp) = (0 : Int32) then (2 : Int32) else (1 : Int32))), (3, .int (if p1 = (0 : Int32) then (16 : Int32) else (24 : Int32))), (0, .ref aQ), (1, .int p0), (2, .int p1)]) hx hb d_Map_matchingBlock_55 hl (by decide) rfl (fun ls hl => ?_)
            refine lv_iload hx hb d_Map_matchingBlock_57 (lv_at hl 0 rfl) ?_
            refine lv_iload hx hb d_Map_matchingBlock_59 (lv_at hl 2 rfl) ?_
            refine lv_iand hx hb d_Map_matchingBlock_61 ?_
            refine lv_if_eq (tgt := 91) hx hb d_Map_matchingBlock_62 (by decide) (fun (h38 : ((f_Sta_read ((if p1 = (0 : Int32) then (16 : Int32) else (24 : Int32)) + (6 : Int32)) sp) &&& (if (f_Sta_has (1 : Int32) (16384 : Int32) sp) = (0 : Int32) then (2 : Int32) else (1 : Int32))) = (0 : Int32)) => ?_) (fun (h38 : ¬ ((f_Sta_read ((if p1 = (0 : Int32) then (16 : Int32) else (24 : Int32)) + (6 : Int32)) sp) &&& (if (f_Sta_has (1 : Int32) (16384 : Int32) sp) = (0 : Int32) then (2 : Int32) else (1 : Int32))) = (0 : Int32)) => ?_)
            · refine lv_iinc (v := (4 : Int32)) (lv' := [(5, .int (4 : Int32)), (6, .int (f_Sta_read ((if p1 = (0 : Int32) then (16 : Int32) else (24 : Int32)) + (6 : Int32)) sp)), (4, .int (if (f_Sta_has (1 : Int32) (16384 : Int32) sp) = (0 : Int32) then (2 : Int32) else (1 : Int32))), (3, .int (if p1 = (0 : Int32) then (16 : Int32) else (24 : Int32))), (0, .ref aQ), (1, .int p0), (2, .int p1)]) hx hb d_Map_matchingBlock_91 hl (k := 1) rfl (by decide) (by decide) rfl (fun ls hl => ?_)
              refine lv_goto (tgt := 36) hx hb d_Map_matchingBlock_94 (by decide) ?_
              refine lv_iload hx hb d_Map_matchingBlock_36 (lv_at hl 0 rfl) ?_
              refine lv_iconst (v := (4 : Int32)) hx hb d_Map_matchingBlock_38 (by decide) ?_
              refine lv_icmp_ge (tgt := 97) hx hb d_Map_matchingBlock_39 (by decide) (fun h39 => ?_) (fun h39 => ?_)
              rotate_left
              · exact absurd (by decide) h39
              refine lv_iconst (v := (-1 : Int32)) hx hb d_Map_matchingBlock_97 (by decide) ?_
              have ef : f_Map_matchingBlock p0 p1 sp = (-1 : Int32) := by unfold f_Map_matchingBlock; rw [if_pos h12, if_neg h14, if_neg h28, if_neg h30, if_neg h36, if_pos h38]
              exact k_iret hx hb hr hlocks hK hP hD hS [0, 1, 2, 3, 4, 5] rfl rfl (by rw [ef] <;> rfl) d_Map_matchingBlock_98
            · refine lv_iload_n hx hb d_Map_matchingBlock_65 rfl (lv_at hl 5 rfl) ?_
              refine lv_iload hx hb d_Map_matchingBlock_66 (lv_at hl 0 rfl) ?_
              refine lv_ixor hx hb d_Map_matchingBlock_68 ?_
              refine lv_sipush (v := (-8192 : Int32)) hx hb d_Map_matchingBlock_69 (by decide) ?_
              refine lv_iand hx hb d_Map_matchingBlock_72 ?_
              refine lv_iload hx hb d_Map_matchingBlock_73 (lv_at hl 0 rfl) ?_
              refine k_cSi (As := [.int (f_Sta_read ((if p1 = (0 : Int32) then (16 : Int32) else (24 : Int32)) + (6 : Int32)) sp)]) (rest := [.int ((p0 ^^^ (f_Sta_read ((if p1 = (0 : Int32) then (16 : Int32) else (24 : Int32)) + (6 : Int32)) sp)) &&& (-8192 : Int32))]) (wr := [(aM, .inr (8, [.ref aW])), (aW, .inl (cW, 16384, .inl w)), (aS, .inr (9, [.ref aG, .ref aX, .int nx, .int lt, .int sm, .int ex])), (aG, .inl (cG, 32, .inl g)), (aX, .inl (cX, 64, .inl sp)), (aQ, .inr (7, [.ref aM, .ref aS, .int en]))]) (wj := [(aM, .inr (8, [.ref aW])), (aW, .inl (cW, 16384, .inl w)), (aS, .inr (9, [.ref aG, .ref aX, .int nx, .int lt, .int sm, .int ex])), (aG, .inl (cG, 32, .inl g)), (aX, .inl (cX, 64, .inl sp)), (aQ, .inr (7, [.ref aM, .ref aS, .int en]))]) ⟨hx, hb, hml, hown, hB⟩ (c_Map_freeBits l D (f_Sta_read ((if p1 = (0 : Int32) then (16 : Int32) else (24 : Int32)) + (6 : Int32)) sp)) yl_Map_freeBits mw_322 hK hN hP hD hS hA [] [] [0, 1, 2, 3, 4, 5] [0, 1, 2, 3, 4, 5] rfl rfl rfl rfl (by decide +kernel) rfl hl.1 rfl (Nat.le_of_ble_eq_true rfl) ⟨Nat.le_of_ble_eq_true rfl, Nat.le_of_ble_eq_true rfl⟩ d_Map_matchingBlock_75 ⟨Nat.le_of_ble_eq_true rfl, Nat.le_of_ble_eq_true rfl⟩ (fun H locs hP hD hS => ?_)
              refine lv_iconst (v := (-1 : Int32)) hx hb d_Map_matchingBlock_78 (by decide) ?_
              refine lv_ixor hx hb d_Map_matchingBlock_79 ?_
              refine lv_iand hx hb d_Map_matchingBlock_80 ?_
              refine lv_if_ne (tgt := 91) hx hb d_Map_matchingBlock_81 (by decide) (fun (h40 : ¬ (((p0 ^^^ (f_Sta_read ((if p1 = (0 : Int32) then (16 : Int32) else (24 : Int32)) + (6 : Int32)) sp)) &&& (-8192 : Int32)) &&& ((f_Map_freeBits (f_Sta_read ((if p1 = (0 : Int32) then (16 : Int32) else (24 : Int32)) + (6 : Int32)) sp)) ^^^ (-1 : Int32))) = (0 : Int32)) => ?_) (fun (h40 : (((p0 ^^^ (f_Sta_read ((if p1 = (0 : Int32) then (16 : Int32) else (24 : Int32)) + (6 : Int32)) sp)) &&& (-8192 : Int32)) &&& ((f_Map_freeBits (f_Sta_read ((if p1 = (0 : Int32) then (16 : Int32) else (24 : Int32)) + (6 : Int32)) sp)) ^^^ (-1 : Int32))) = (0 : Int32)) => ?_)
              · refine lv_iinc (v := (4 : Int32)) (lv' := [(5, .int (4 : Int32)), (6, .int (f_Sta_read ((if p1 = (0 : Int32) then (16 : Int32) else (24 : Int32)) + (6 : Int32)) sp)), (4, .int (if (f_Sta_has (1 : Int32) (16384 : Int32) sp) = (0 : Int32) then (2 : Int32) else (1 : Int32))), (3, .int (if p1 = (0 : Int32) then (16 : Int32) else (24 : Int32))), (0, .ref aQ), (1, .int p0), (2, .int p1)]) hx hb d_Map_matchingBlock_91 hl (k := 1) rfl (by decide) (by decide) rfl (fun ls hl => ?_)
                refine lv_goto (tgt := 36) hx hb d_Map_matchingBlock_94 (by decide) ?_
                refine lv_iload hx hb d_Map_matchingBlock_36 (lv_at hl 0 rfl) ?_
                refine lv_iconst (v := (4 : Int32)) hx hb d_Map_matchingBlock_38 (by decide) ?_
                refine lv_icmp_ge (tgt := 97) hx hb d_Map_matchingBlock_39 (by decide) (fun h41 => ?_) (fun h41 => ?_)
                rotate_left
                · exact absurd (by decide) h41
                refine lv_iconst (v := (-1 : Int32)) hx hb d_Map_matchingBlock_97 (by decide) ?_
                have ef : f_Map_matchingBlock p0 p1 sp = (-1 : Int32) := by unfold f_Map_matchingBlock; rw [if_pos h12, if_neg h14, if_neg h28, if_neg h30, if_neg h36, if_neg h38, if_neg h40]
                exact k_iret hx hb hr hlocks hK hP hD hS [0, 1, 2, 3, 4, 5] rfl rfl (by rw [ef] <;> rfl) d_Map_matchingBlock_98
              · refine lv_iload_n hx hb d_Map_matchingBlock_84 rfl (lv_at hl 3 rfl) ?_
                refine lv_iconst (v := (2 : Int32)) hx hb d_Map_matchingBlock_85 (by decide) ?_
                refine lv_iload hx hb d_Map_matchingBlock_86 (lv_at hl 1 rfl) ?_
                refine lv_imul hx hb d_Map_matchingBlock_88 ?_
                refine k_fold (6 : Int32) (by decide) ?_
                refine lv_iadd hx hb d_Map_matchingBlock_89 ?_
                have ef : f_Map_matchingBlock p0 p1 sp = ((if p1 = (0 : Int32) then (16 : Int32) else (24 : Int32)) + (6 : Int32)) := by unfold f_Map_matchingBlock; rw [if_pos h12, if_neg h14, if_neg h28, if_neg h30, if_neg h36, if_neg h38, if_pos h40]
                exact k_iret hx hb hr hlocks hK hP hD hS [0, 1, 2, 3, 4, 5] rfl rfl (by rw [ef] <;> rfl) d_Map_matchingBlock_90
          · refine lv_iload_n hx hb d_Map_matchingBlock_84 rfl (lv_at hl 3 rfl) ?_
            refine lv_iconst (v := (2 : Int32)) hx hb d_Map_matchingBlock_85 (by decide) ?_
            refine lv_iload hx hb d_Map_matchingBlock_86 (lv_at hl 1 rfl) ?_
            refine lv_imul hx hb d_Map_matchingBlock_88 ?_
            refine k_fold (4 : Int32) (by decide) ?_
            refine lv_iadd hx hb d_Map_matchingBlock_89 ?_
            have ef : f_Map_matchingBlock p0 p1 sp = ((if p1 = (0 : Int32) then (16 : Int32) else (24 : Int32)) + (4 : Int32)) := by unfold f_Map_matchingBlock; rw [if_pos h12, if_neg h14, if_neg h28, if_neg h30, if_pos h36]
            exact k_iret hx hb hr hlocks hK hP hD hS [0, 1, 2, 3, 4, 5] rfl rfl (by rw [ef] <;> rfl) d_Map_matchingBlock_90
      · refine lv_iload_n hx hb d_Map_matchingBlock_84 rfl (lv_at hl 3 rfl) ?_
        refine lv_iconst (v := (2 : Int32)) hx hb d_Map_matchingBlock_85 (by decide) ?_
        refine lv_iload hx hb d_Map_matchingBlock_86 (lv_at hl 1 rfl) ?_
        refine lv_imul hx hb d_Map_matchingBlock_88 ?_
        refine k_fold (2 : Int32) (by decide) ?_
        refine lv_iadd hx hb d_Map_matchingBlock_89 ?_
        have ef : f_Map_matchingBlock p0 p1 sp = ((if p1 = (0 : Int32) then (16 : Int32) else (24 : Int32)) + (2 : Int32)) := by unfold f_Map_matchingBlock; rw [if_pos h12, if_neg h14, if_pos h28]
        exact k_iret hx hb hr hlocks hK hP hD hS [0, 1, 2, 3, 4, 5] rfl rfl (by rw [ef] <;> rfl) d_Map_matchingBlock_90
  · refine lv_iload_n hx hb d_Map_matchingBlock_65 rfl (lv_at hl 5 rfl) ?_
    refine lv_iload hx hb d_Map_matchingBlock_66 (lv_at hl 0 rfl) ?_
    refine lv_ixor hx hb d_Map_matchingBlock_68 ?_
    refine lv_sipush (v := (-8192 : Int32)) hx hb d_Map_matchingBlock_69 (by decide) ?_
    refine lv_iand hx hb d_Map_matchingBlock_72 ?_
    refine lv_iload hx hb d_Map_matchingBlock_73 (lv_at hl 0 rfl) ?_
    refine k_cSi (As := [.int (f_Sta_read ((if p1 = (0 : Int32) then (16 : Int32) else (24 : Int32)) + (0 : Int32)) sp)]) (rest := [.int ((p0 ^^^ (f_Sta_read ((if p1 = (0 : Int32) then (16 : Int32) else (24 : Int32)) + (0 : Int32)) sp)) &&& (-8192 : Int32))]) (wr := [(aM, .inr (8, [.ref aW])), (aW, .inl (cW, 16384, .inl w)), (aS, .inr (9, [.ref aG, .ref aX, .int nx, .int lt, .int sm, .int ex])), (aG, .inl (cG, 32, .inl g)), (aX, .inl (cX, 64, .inl sp)), (aQ, .inr (7, [.ref aM, .ref aS, .int en]))]) (wj := [(aM, .inr (8, [.ref aW])), (aW, .inl (cW, 16384, .inl w)), (aS, .inr (9, [.ref aG, .ref aX, .int nx, .int lt, .int sm, .int ex])), (aG, .inl (cG, 32, .inl g)), (aX, .inl (cX, 64, .inl sp)), (aQ, .inr (7, [.ref aM, .ref aS, .int en]))]) ⟨hx, hb, hml, hown, hB⟩ (c_Map_freeBits l D (f_Sta_read ((if p1 = (0 : Int32) then (16 : Int32) else (24 : Int32)) + (0 : Int32)) sp)) yl_Map_freeBits mw_322 hK hN hP hD hS hA [] [] [0, 1, 2, 3, 4, 5] [0, 1, 2, 3, 4, 5] rfl rfl rfl rfl (by decide +kernel) rfl hl.1 rfl (Nat.le_of_ble_eq_true rfl) ⟨Nat.le_of_ble_eq_true rfl, Nat.le_of_ble_eq_true rfl⟩ d_Map_matchingBlock_75 ⟨Nat.le_of_ble_eq_true rfl, Nat.le_of_ble_eq_true rfl⟩ (fun H locs hP hD hS => ?_)
    refine lv_iconst (v := (-1 : Int32)) hx hb d_Map_matchingBlock_78 (by decide) ?_
    refine lv_ixor hx hb d_Map_matchingBlock_79 ?_
    refine lv_iand hx hb d_Map_matchingBlock_80 ?_
    refine lv_if_ne (tgt := 91) hx hb d_Map_matchingBlock_81 (by decide) (fun (h42 : ¬ (((p0 ^^^ (f_Sta_read ((if p1 = (0 : Int32) then (16 : Int32) else (24 : Int32)) + (0 : Int32)) sp)) &&& (-8192 : Int32)) &&& ((f_Map_freeBits (f_Sta_read ((if p1 = (0 : Int32) then (16 : Int32) else (24 : Int32)) + (0 : Int32)) sp)) ^^^ (-1 : Int32))) = (0 : Int32)) => ?_) (fun (h42 : (((p0 ^^^ (f_Sta_read ((if p1 = (0 : Int32) then (16 : Int32) else (24 : Int32)) + (0 : Int32)) sp)) &&& (-8192 : Int32)) &&& ((f_Map_freeBits (f_Sta_read ((if p1 = (0 : Int32) then (16 : Int32) else (24 : Int32)) + (0 : Int32)) sp)) ^^^ (-1 : Int32))) = (0 : Int32)) => ?_)
    · refine lv_iinc (v := (1 : Int32)) (lv' := [(5, .int (1 : Int32)), (6, .int (f_Sta_read ((if p1 = (0 : Int32) then (16 : Int32) else (24 : Int32)) + (0 : Int32)) sp)), (4, .int (if (f_Sta_has (1 : Int32) (16384 : Int32) sp) = (0 : Int32) then (2 : Int32) else (1 : Int32))), (3, .int (if p1 = (0 : Int32) then (16 : Int32) else (24 : Int32))), (0, .ref aQ), (1, .int p0), (2, .int p1)]) hx hb d_Map_matchingBlock_91 hl (k := 1) rfl (by decide) (by decide) rfl (fun ls hl => ?_)
      refine lv_goto (tgt := 36) hx hb d_Map_matchingBlock_94 (by decide) ?_
      refine lv_iload hx hb d_Map_matchingBlock_36 (lv_at hl 0 rfl) ?_
      refine lv_iconst (v := (4 : Int32)) hx hb d_Map_matchingBlock_38 (by decide) ?_
      refine lv_icmp_ge (tgt := 97) hx hb d_Map_matchingBlock_39 (by decide) (fun h43 => ?_) (fun h43 => ?_)
      · exact absurd h43 (by decide)
      refine lv_aload_n hx hb d_Map_matchingBlock_42 rfl (lv_at hl 4 rfl) ?_
      refine va_get (D := D) (ci := 7) (v := .ref aS) (C := "MappedProcessor$Mapper") (T := T_Map) (N := 3) hx hb hB iw_Map hown hK hP 5 rfl rfl 1 (by decide) (hB _ mw_65) (fun _ h9 => h9) rfl d_Map_matchingBlock_43 ?_
      refine lv_iload_n hx hb d_Map_matchingBlock_46 rfl (lv_at hl 3 rfl) ?_
      refine lv_iconst (v := (2 : Int32)) hx hb d_Map_matchingBlock_47 (by decide) ?_
      refine lv_iload hx hb d_Map_matchingBlock_48 (lv_at hl 0 rfl) ?_
      refine lv_imul hx hb d_Map_matchingBlock_50 ?_
      refine k_fold (2 : Int32) (by decide) ?_
      refine lv_iadd hx hb d_Map_matchingBlock_51 ?_
      refine k_cVi (As := [.int ((if p1 = (0 : Int32) then (16 : Int32) else (24 : Int32)) + (2 : Int32))]) (rest := []) (wr := [(aM, .inr (8, [.ref aW])), (aW, .inl (cW, 16384, .inl w)), (aQ, .inr (7, [.ref aM, .ref aS, .int en]))]) (wj := [(aM, .inr (8, [.ref aW])), (aW, .inl (cW, 16384, .inl w)), (aS, .inr (9, [.ref aG, .ref aX, .int nx, .int lt, .int sm, .int ex])), (aG, .inl (cG, 32, .inl g)), (aX, .inl (cX, 64, .inl sp)), (aQ, .inr (7, [.ref aM, .ref aS, .int en]))]) ⟨hx, hb, hml, hown, hB⟩ (c_Sta_read l D aS aG aX cG cX g sp nx lt sm ex ((if p1 = (0 : Int32) then (16 : Int32) else (24 : Int32)) + (2 : Int32))) yl_Sta_read mw_321 hK hN hP hD hS hA [1, 2] [2, 3, 4] [0, 1, 5] [0, 1, 3, 4, 5, 2] rfl rfl rfl rfl (by decide +kernel) 0 rfl rfl rfl rfl hl.1 rfl (Nat.le_of_ble_eq_true rfl) ⟨Nat.le_of_ble_eq_true rfl, Nat.le_of_ble_eq_true rfl⟩ d_Map_matchingBlock_52 ⟨Nat.le_of_ble_eq_true rfl, Nat.le_of_ble_eq_true rfl⟩ (fun H locs hP hD hS => ?_)
      refine lv_istore (lv' := [(6, .int (f_Sta_read ((if p1 = (0 : Int32) then (16 : Int32) else (24 : Int32)) + (2 : Int32)) sp)), (5, .int (1 : Int32)), (4, .int (if (f_Sta_has (1 : Int32) (16384 : Int32) sp) = (0 : Int32) then (2 : Int32) else (1 : Int32))), (3, .int (if p1 = (0 : Int32) then (16 : Int32) else (24 : Int32))), (0, .ref aQ), (1, .int p0), (2, .int p1)]) hx hb d_Map_matchingBlock_55 hl (by decide) rfl (fun ls hl => ?_)
      refine lv_iload hx hb d_Map_matchingBlock_57 (lv_at hl 0 rfl) ?_
      refine lv_iload hx hb d_Map_matchingBlock_59 (lv_at hl 2 rfl) ?_
      refine lv_iand hx hb d_Map_matchingBlock_61 ?_
      refine lv_if_eq (tgt := 91) hx hb d_Map_matchingBlock_62 (by decide) (fun (h44 : ((f_Sta_read ((if p1 = (0 : Int32) then (16 : Int32) else (24 : Int32)) + (2 : Int32)) sp) &&& (if (f_Sta_has (1 : Int32) (16384 : Int32) sp) = (0 : Int32) then (2 : Int32) else (1 : Int32))) = (0 : Int32)) => ?_) (fun (h44 : ¬ ((f_Sta_read ((if p1 = (0 : Int32) then (16 : Int32) else (24 : Int32)) + (2 : Int32)) sp) &&& (if (f_Sta_has (1 : Int32) (16384 : Int32) sp) = (0 : Int32) then (2 : Int32) else (1 : Int32))) = (0 : Int32)) => ?_)
      · refine lv_iinc (v := (2 : Int32)) (lv' := [(5, .int (2 : Int32)), (6, .int (f_Sta_read ((if p1 = (0 : Int32) then (16 : Int32) else (24 : Int32)) + (2 : Int32)) sp)), (4, .int (if (f_Sta_has (1 : Int32) (16384 : Int32) sp) = (0 : Int32) then (2 : Int32) else (1 : Int32))), (3, .int (if p1 = (0 : Int32) then (16 : Int32) else (24 : Int32))), (0, .ref aQ), (1, .int p0), (2, .int p1)]) hx hb d_Map_matchingBlock_91 hl (k := 1) rfl (by decide) (by decide) rfl (fun ls hl => ?_)
        refine lv_goto (tgt := 36) hx hb d_Map_matchingBlock_94 (by decide) ?_
        refine lv_iload hx hb d_Map_matchingBlock_36 (lv_at hl 0 rfl) ?_
        refine lv_iconst (v := (4 : Int32)) hx hb d_Map_matchingBlock_38 (by decide) ?_
        refine lv_icmp_ge (tgt := 97) hx hb d_Map_matchingBlock_39 (by decide) (fun h45 => ?_) (fun h45 => ?_)
        · exact absurd h45 (by decide)
        refine lv_aload_n hx hb d_Map_matchingBlock_42 rfl (lv_at hl 4 rfl) ?_
        refine va_get (D := D) (ci := 7) (v := .ref aS) (C := "MappedProcessor$Mapper") (T := T_Map) (N := 3) hx hb hB iw_Map hown hK hP 5 rfl rfl 1 (by decide) (hB _ mw_65) (fun _ h9 => h9) rfl d_Map_matchingBlock_43 ?_
        refine lv_iload_n hx hb d_Map_matchingBlock_46 rfl (lv_at hl 3 rfl) ?_
        refine lv_iconst (v := (2 : Int32)) hx hb d_Map_matchingBlock_47 (by decide) ?_
        refine lv_iload hx hb d_Map_matchingBlock_48 (lv_at hl 0 rfl) ?_
        refine lv_imul hx hb d_Map_matchingBlock_50 ?_
        refine k_fold (4 : Int32) (by decide) ?_
        refine lv_iadd hx hb d_Map_matchingBlock_51 ?_
        refine k_cVi (As := [.int ((if p1 = (0 : Int32) then (16 : Int32) else (24 : Int32)) + (4 : Int32))]) (rest := []) (wr := [(aM, .inr (8, [.ref aW])), (aW, .inl (cW, 16384, .inl w)), (aQ, .inr (7, [.ref aM, .ref aS, .int en]))]) (wj := [(aM, .inr (8, [.ref aW])), (aW, .inl (cW, 16384, .inl w)), (aS, .inr (9, [.ref aG, .ref aX, .int nx, .int lt, .int sm, .int ex])), (aG, .inl (cG, 32, .inl g)), (aX, .inl (cX, 64, .inl sp)), (aQ, .inr (7, [.ref aM, .ref aS, .int en]))]) ⟨hx, hb, hml, hown, hB⟩ (c_Sta_read l D aS aG aX cG cX g sp nx lt sm ex ((if p1 = (0 : Int32) then (16 : Int32) else (24 : Int32)) + (4 : Int32))) yl_Sta_read mw_321 hK hN hP hD hS hA [1, 2] [2, 3, 4] [0, 1, 5] [0, 1, 3, 4, 5, 2] rfl rfl rfl rfl (by decide +kernel) 0 rfl rfl rfl rfl hl.1 rfl (Nat.le_of_ble_eq_true rfl) ⟨Nat.le_of_ble_eq_true rfl, Nat.le_of_ble_eq_true rfl⟩ d_Map_matchingBlock_52 ⟨Nat.le_of_ble_eq_true rfl, Nat.le_of_ble_eq_true rfl⟩ (fun H locs hP hD hS => ?_)
        refine lv_istore (lv' := [(6, .int (f_Sta_read ((if p1 = (0 : Int32) then (16 : Int32) else (24 : Int32)) + (4 : Int32)) sp)), (5, .int (2 : Int32)), (4, .int (if (f_Sta_has (1 : Int32) (16384 : Int32) sp) = (0 : Int32) then (2 : Int32) else (1 : Int32))), (3, .int (if p1 = (0 : Int32) then (16 : Int32) else (24 : Int32))), (0, .ref aQ), (1, .int p0), (2, .int p1)]) hx hb d_Map_matchingBlock_55 hl (by decide) rfl (fun ls hl => ?_)
        refine lv_iload hx hb d_Map_matchingBlock_57 (lv_at hl 0 rfl) ?_
        refine lv_iload hx hb d_Map_matchingBlock_59 (lv_at hl 2 rfl) ?_
        refine lv_iand hx hb d_Map_matchingBlock_61 ?_
        refine lv_if_eq (tgt := 91) hx hb d_Map_matchingBlock_62 (by decide) (fun (h46 : ((f_Sta_read ((if p1 = (0 : Int32) then (16 : Int32) else (24 : Int32)) + (4 : Int32)) sp) &&& (if (f_Sta_has (1 : Int32) (16384 : Int32) sp) = (0 : Int32) then (2 : Int32) else (1 : Int32))) = (0 : Int32)) => ?_) (fun (h46 : ¬ ((f_Sta_read ((if p1 = (0 : Int32) then (16 : Int32) else (24 : Int32)) + (4 : Int32)) sp) &&& (if (f_Sta_has (1 : Int32) (16384 : Int32) sp) = (0 : Int32) then (2 : Int32) else (1 : Int32))) = (0 : Int32)) => ?_)
        · refine lv_iinc (v := (3 : Int32)) (lv' := [(5, .int (3 : Int32)), (6, .int (f_Sta_read ((if p1 = (0 : Int32) then (16 : Int32) else (24 : Int32)) + (4 : Int32)) sp)), (4, .int (if (f_Sta_has (1 : Int32) (16384 : Int32) sp) = (0 : Int32) then (2 : Int32) else (1 : Int32))), (3, .int (if p1 = (0 : Int32) then (16 : Int32) else (24 : Int32))), (0, .ref aQ), (1, .int p0), (2, .int p1)]) hx hb d_Map_matchingBlock_91 hl (k := 1) rfl (by decide) (by decide) rfl (fun ls hl => ?_)
          refine lv_goto (tgt := 36) hx hb d_Map_matchingBlock_94 (by decide) ?_
          refine lv_iload hx hb d_Map_matchingBlock_36 (lv_at hl 0 rfl) ?_
          refine lv_iconst (v := (4 : Int32)) hx hb d_Map_matchingBlock_38 (by decide) ?_
          refine lv_icmp_ge (tgt := 97) hx hb d_Map_matchingBlock_39 (by decide) (fun h47 => ?_) (fun h47 => ?_)
          · exact absurd h47 (by decide)
          refine lv_aload_n hx hb d_Map_matchingBlock_42 rfl (lv_at hl 4 rfl) ?_
          refine va_get (D := D) (ci := 7) (v := .ref aS) (C := "MappedProcessor$Mapper") (T := T_Map) (N := 3) hx hb hB iw_Map hown hK hP 5 rfl rfl 1 (by decide) (hB _ mw_65) (fun _ h9 => h9) rfl d_Map_matchingBlock_43 ?_
          refine lv_iload_n hx hb d_Map_matchingBlock_46 rfl (lv_at hl 3 rfl) ?_
          refine lv_iconst (v := (2 : Int32)) hx hb d_Map_matchingBlock_47 (by decide) ?_
          refine lv_iload hx hb d_Map_matchingBlock_48 (lv_at hl 0 rfl) ?_
          refine lv_imul hx hb d_Map_matchingBlock_50 ?_
          refine k_fold (6 : Int32) (by decide) ?_
          refine lv_iadd hx hb d_Map_matchingBlock_51 ?_
          refine k_cVi (As := [.int ((if p1 = (0 : Int32) then (16 : Int32) else (24 : Int32)) + (6 : Int32))]) (rest := []) (wr := [(aM, .inr (8, [.ref aW])), (aW, .inl (cW, 16384, .inl w)), (aQ, .inr (7, [.ref aM, .ref aS, .int en]))]) (wj := [(aM, .inr (8, [.ref aW])), (aW, .inl (cW, 16384, .inl w)), (aS, .inr (9, [.ref aG, .ref aX, .int nx, .int lt, .int sm, .int ex])), (aG, .inl (cG, 32, .inl g)), (aX, .inl (cX, 64, .inl sp)), (aQ, .inr (7, [.ref aM, .ref aS, .int en]))]) ⟨hx, hb, hml, hown, hB⟩ (c_Sta_read l D aS aG aX cG cX g sp nx lt sm ex ((if p1 = (0 : Int32) then (16 : Int32) else (24 : Int32)) + (6 : Int32))) yl_Sta_read mw_321 hK hN hP hD hS hA [1, 2] [2, 3, 4] [0, 1, 5] [0, 1, 3, 4, 5, 2] rfl rfl rfl rfl (by decide +kernel) 0 rfl rfl rfl rfl hl.1 rfl (Nat.le_of_ble_eq_true rfl) ⟨Nat.le_of_ble_eq_true rfl, Nat.le_of_ble_eq_true rfl⟩ d_Map_matchingBlock_52 ⟨Nat.le_of_ble_eq_true rfl, Nat.le_of_ble_eq_true rfl⟩ (fun H locs hP hD hS => ?_)
          refine lv_istore (lv' := [(6, .int (f_Sta_read ((if p1 = (0 : Int32) then (16 : Int32) else (24 : Int32)) + (6 : Int32)) sp)), (5, .int (3 : Int32)), (4, .int (if (f_Sta_has (1 : Int32) (16384 : Int32) sp) = (0 : Int32) then (2 : Int32) else (1 : Int32))), (3, .int (if p1 = (0 : Int32) then (16 : Int32) else (24 : Int32))), (0, .ref aQ), (1, .int p0), (2, .int p1)]) hx hb d_Map_matchingBlock_55 hl (by decide) rfl (fun ls hl => ?_)
          refine lv_iload hx hb d_Map_matchingBlock_57 (lv_at hl 0 rfl) ?_
          refine lv_iload hx hb d_Map_matchingBlock_59 (lv_at hl 2 rfl) ?_
          refine lv_iand hx hb d_Map_matchingBlock_61 ?_
          refine lv_if_eq (tgt := 91) hx hb d_Map_matchingBlock_62 (by decide) (fun (h48 : ((f_Sta_read ((if p1 = (0 : Int32) then (16 : Int32) else (24 : Int32)) + (6 : Int32)) sp) &&& (if (f_Sta_has (1 : Int32) (16384 : Int32) sp) = (0 : Int32) then (2 : Int32) else (1 : Int32))) = (0 : Int32)) => ?_) (fun (h48 : ¬ ((f_Sta_read ((if p1 = (0 : Int32) then (16 : Int32) else (24 : Int32)) + (6 : Int32)) sp) &&& (if (f_Sta_has (1 : Int32) (16384 : Int32) sp) = (0 : Int32) then (2 : Int32) else (1 : Int32))) = (0 : Int32)) => ?_)
          · refine lv_iinc (v := (4 : Int32)) (lv' := [(5, .int (4 : Int32)), (6, .int (f_Sta_read ((if p1 = (0 : Int32) then (16 : Int32) else (24 : Int32)) + (6 : Int32)) sp)), (4, .int (if (f_Sta_has (1 : Int32) (16384 : Int32) sp) = (0 : Int32) then (2 : Int32) else (1 : Int32))), (3, .int (if p1 = (0 : Int32) then (16 : Int32) else (24 : Int32))), (0, .ref aQ), (1, .int p0), (2, .int p1)]) hx hb d_Map_matchingBlock_91 hl (k := 1) rfl (by decide) (by decide) rfl (fun ls hl => ?_)
            refine lv_goto (tgt := 36) hx hb d_Map_matchingBlock_94 (by decide) ?_
            refine lv_iload hx hb d_Map_matchingBlock_36 (lv_at hl 0 rfl) ?_
            refine lv_iconst (v := (4 : Int32)) hx hb d_Map_matchingBlock_38 (by decide) ?_
            refine lv_icmp_ge (tgt := 97) hx hb d_Map_matchingBlock_39 (by decide) (fun h49 => ?_) (fun h49 => ?_)
            rotate_left
            · exact absurd (by decide) h49
            refine lv_iconst (v := (-1 : Int32)) hx hb d_Map_matchingBlock_97 (by decide) ?_
            have ef : f_Map_matchingBlock p0 p1 sp = (-1 : Int32) := by unfold f_Map_matchingBlock; rw [if_neg h12, if_neg h42, if_pos h44, if_pos h46, if_pos h48]
            exact k_iret hx hb hr hlocks hK hP hD hS [0, 1, 2, 3, 4, 5] rfl rfl (by rw [ef] <;> rfl) d_Map_matchingBlock_98
          · refine lv_iload_n hx hb d_Map_matchingBlock_65 rfl (lv_at hl 5 rfl) ?_
            refine lv_iload hx hb d_Map_matchingBlock_66 (lv_at hl 0 rfl) ?_
            refine lv_ixor hx hb d_Map_matchingBlock_68 ?_
            refine lv_sipush (v := (-8192 : Int32)) hx hb d_Map_matchingBlock_69 (by decide) ?_
            refine lv_iand hx hb d_Map_matchingBlock_72 ?_
            refine lv_iload hx hb d_Map_matchingBlock_73 (lv_at hl 0 rfl) ?_
            refine k_cSi (As := [.int (f_Sta_read ((if p1 = (0 : Int32) then (16 : Int32) else (24 : Int32)) + (6 : Int32)) sp)]) (rest := [.int ((p0 ^^^ (f_Sta_read ((if p1 = (0 : Int32) then (16 : Int32) else (24 : Int32)) + (6 : Int32)) sp)) &&& (-8192 : Int32))]) (wr := [(aM, .inr (8, [.ref aW])), (aW, .inl (cW, 16384, .inl w)), (aS, .inr (9, [.ref aG, .ref aX, .int nx, .int lt, .int sm, .int ex])), (aG, .inl (cG, 32, .inl g)), (aX, .inl (cX, 64, .inl sp)), (aQ, .inr (7, [.ref aM, .ref aS, .int en]))]) (wj := [(aM, .inr (8, [.ref aW])), (aW, .inl (cW, 16384, .inl w)), (aS, .inr (9, [.ref aG, .ref aX, .int nx, .int lt, .int sm, .int ex])), (aG, .inl (cG, 32, .inl g)), (aX, .inl (cX, 64, .inl sp)), (aQ, .inr (7, [.ref aM, .ref aS, .int en]))]) ⟨hx, hb, hml, hown, hB⟩ (c_Map_freeBits l D (f_Sta_read ((if p1 = (0 : Int32) then (16 : Int32) else (24 : Int32)) + (6 : Int32)) sp)) yl_Map_freeBits mw_322 hK hN hP hD hS hA [] [] [0, 1, 2, 3, 4, 5] [0, 1, 2, 3, 4, 5] rfl rfl rfl rfl (by decide +kernel) rfl hl.1 rfl (Nat.le_of_ble_eq_true rfl) ⟨Nat.le_of_ble_eq_true rfl, Nat.le_of_ble_eq_true rfl⟩ d_Map_matchingBlock_75 ⟨Nat.le_of_ble_eq_true rfl, Nat.le_of_ble_eq_true rfl⟩ (fun H locs hP hD hS => ?_)
            refine lv_iconst (v := (-1 : Int32)) hx hb d_Map_matchingBlock_78 (by decide) ?_
            refine lv_ixor hx hb d_Map_matchingBlock_79 ?_
            refine lv_iand hx hb d_Map_matchingBlock_80 ?_
            refine lv_if_ne (tgt := 91) hx hb d_Map_matchingBlock_81 (by decide) (fun (h50 : ¬ (((p0 ^^^ (f_Sta_read ((if p1 = (0 : Int32) then (16 : Int32) else (24 : Int32)) + (6 : Int32)) sp)) &&& (-8192 : Int32)) &&& ((f_Map_freeBits (f_Sta_read ((if p1 = (0 : Int32) then (16 : Int32) else (24 : Int32)) + (6 : Int32)) sp)) ^^^ (-1 : Int32))) = (0 : Int32)) => ?_) (fun (h50 : (((p0 ^^^ (f_Sta_read ((if p1 = (0 : Int32) then (16 : Int32) else (24 : Int32)) + (6 : Int32)) sp)) &&& (-8192 : Int32)) &&& ((f_Map_freeBits (f_Sta_read ((if p1 = (0 : Int32) then (16 : Int32) else (24 : Int32)) + (6 : Int32)) sp)) ^^^ (-1 : Int32))) = (0 : Int32)) => ?_)
            · refine lv_iinc (v := (4 : Int32)) (lv' := [(5, .int (4 : Int32)), (6, .int (f_Sta_read ((if p1 = (0 : Int32) then (16 : Int32) else (24 : Int32)) + (6 : Int32)) sp)), (4, .int (if (f_Sta_has (1 : Int32) (16384 : Int32) sp) = (0 : Int32) then (2 : Int32) else (1 : Int32))), (3, .int (if p1 = (0 : Int32) then (16 : Int32) else (24 : Int32))), (0, .ref aQ), (1, .int p0), (2, .int p1)]) hx hb d_Map_matchingBlock_91 hl (k := 1) rfl (by decide) (by decide) rfl (fun ls hl => ?_)
              refine lv_goto (tgt := 36) hx hb d_Map_matchingBlock_94 (by decide) ?_
              refine lv_iload hx hb d_Map_matchingBlock_36 (lv_at hl 0 rfl) ?_
              refine lv_iconst (v := (4 : Int32)) hx hb d_Map_matchingBlock_38 (by decide) ?_
              refine lv_icmp_ge (tgt := 97) hx hb d_Map_matchingBlock_39 (by decide) (fun h51 => ?_) (fun h51 => ?_)
              rotate_left
              · exact absurd (by decide) h51
              refine lv_iconst (v := (-1 : Int32)) hx hb d_Map_matchingBlock_97 (by decide) ?_
              have ef : f_Map_matchingBlock p0 p1 sp = (-1 : Int32) := by unfold f_Map_matchingBlock; rw [if_neg h12, if_neg h42, if_pos h44, if_pos h46, if_neg h48, if_neg h50]
              exact k_iret hx hb hr hlocks hK hP hD hS [0, 1, 2, 3, 4, 5] rfl rfl (by rw [ef] <;> rfl) d_Map_matchingBlock_98
            · refine lv_iload_n hx hb d_Map_matchingBlock_84 rfl (lv_at hl 3 rfl) ?_
              refine lv_iconst (v := (2 : Int32)) hx hb d_Map_matchingBlock_85 (by decide) ?_
              refine lv_iload hx hb d_Map_matchingBlock_86 (lv_at hl 1 rfl) ?_
              refine lv_imul hx hb d_Map_matchingBlock_88 ?_
              refine k_fold (6 : Int32) (by decide) ?_
              refine lv_iadd hx hb d_Map_matchingBlock_89 ?_
              have ef : f_Map_matchingBlock p0 p1 sp = ((if p1 = (0 : Int32) then (16 : Int32) else (24 : Int32)) + (6 : Int32)) := by unfold f_Map_matchingBlock; rw [if_neg h12, if_neg h42, if_pos h44, if_pos h46, if_neg h48, if_pos h50]
              exact k_iret hx hb hr hlocks hK hP hD hS [0, 1, 2, 3, 4, 5] rfl rfl (by rw [ef] <;> rfl) d_Map_matchingBlock_90
        · refine lv_iload_n hx hb d_Map_matchingBlock_65 rfl (lv_at hl 5 rfl) ?_
          refine lv_iload hx hb d_Map_matchingBlock_66 (lv_at hl 0 rfl) ?_
          refine lv_ixor hx hb d_Map_matchingBlock_68 ?_
          refine lv_sipush (v := (-8192 : Int32)) hx hb d_Map_matchingBlock_69 (by decide) ?_
          refine lv_iand hx hb d_Map_matchingBlock_72 ?_
          refine lv_iload hx hb d_Map_matchingBlock_73 (lv_at hl 0 rfl) ?_
          refine k_cSi (As := [.int (f_Sta_read ((if p1 = (0 : Int32) then (16 : Int32) else (24 : Int32)) + (4 : Int32)) sp)]) (rest := [.int ((p0 ^^^ (f_Sta_read ((if p1 = (0 : Int32) then (16 : Int32) else (24 : Int32)) + (4 : Int32)) sp)) &&& (-8192 : Int32))]) (wr := [(aM, .inr (8, [.ref aW])), (aW, .inl (cW, 16384, .inl w)), (aS, .inr (9, [.ref aG, .ref aX, .int nx, .int lt, .int sm, .int ex])), (aG, .inl (cG, 32, .inl g)), (aX, .inl (cX, 64, .inl sp)), (aQ, .inr (7, [.ref aM, .ref aS, .int en]))]) (wj := [(aM, .inr (8, [.ref aW])), (aW, .inl (cW, 16384, .inl w)), (aS, .inr (9, [.ref aG, .ref aX, .int nx, .int lt, .int sm, .int ex])), (aG, .inl (cG, 32, .inl g)), (aX, .inl (cX, 64, .inl sp)), (aQ, .inr (7, [.ref aM, .ref aS, .int en]))]) ⟨hx, hb, hml, hown, hB⟩ (c_Map_freeBits l D (f_Sta_read ((if p1 = (0 : Int32) then (16 : Int32) else (24 : Int32)) + (4 : Int32)) sp)) yl_Map_freeBits mw_322 hK hN hP hD hS hA [] [] [0, 1, 2, 3, 4, 5] [0, 1, 2, 3, 4, 5] rfl rfl rfl rfl (by decide +kernel) rfl hl.1 rfl (Nat.le_of_ble_eq_true rfl) ⟨Nat.le_of_ble_eq_true rfl, Nat.le_of_ble_eq_true rfl⟩ d_Map_matchingBlock_75 ⟨Nat.le_of_ble_eq_true rfl, Nat.le_of_ble_eq_true rfl⟩ (fun H locs hP hD hS => ?_)
          refine lv_iconst (v := (-1 : Int32)) hx hb d_Map_matchingBlock_78 (by decide) ?_
          refine lv_ixor hx hb d_Map_matchingBlock_79 ?_
          refine lv_iand hx hb d_Map_matchingBlock_80 ?_
          refine lv_if_ne (tgt := 91) hx hb d_Map_matchingBlock_81 (by decide) (fun (h52 : ¬ (((p0 ^^^ (f_Sta_read ((if p1 = (0 : Int32) then (16 : Int32) else (24 : Int32)) + (4 : Int32)) sp)) &&& (-8192 : Int32)) &&& ((f_Map_freeBits (f_Sta_read ((if p1 = (0 : Int32) then (16 : Int32) else (24 : Int32)) + (4 : Int32)) sp)) ^^^ (-1 : Int32))) = (0 : Int32)) => ?_) (fun (h52 : (((p0 ^^^ (f_Sta_read ((if p1 = (0 : Int32) then (16 : Int32) else (24 : Int32)) + (4 : Int32)) sp)) &&& (-8192 : Int32)) &&& ((f_Map_freeBits (f_Sta_read ((if p1 = (0 : Int32) then (16 : Int32) else (24 : Int32)) + (4 : Int32)) sp)) ^^^ (-1 : Int32))) = (0 : Int32)) => ?_)
          · refine lv_iinc (v := (3 : Int32)) (lv' := [(5, .int (3 : Int32)), (6, .int (f_Sta_read ((if p1 = (0 : Int32) then (16 : Int32) else (24 : Int32)) + (4 : Int32)) sp)), (4, .int (if (f_Sta_has (1 : Int32) (16384 : Int32) sp) = (0 : Int32) then (2 : Int32) else (1 : Int32))), (3, .int (if p1 = (0 : Int32) then (16 : Int32) else (24 : Int32))), (0, .ref aQ), (1, .int p0), (2, .int p1)]) hx hb d_Map_matchingBlock_91 hl (k := 1) rfl (by decide) (by decide) rfl (fun ls hl => ?_)
            refine lv_goto (tgt := 36) hx hb d_Map_matchingBlock_94 (by decide) ?_
            refine lv_iload hx hb d_Map_matchingBlock_36 (lv_at hl 0 rfl) ?_
            refine lv_iconst (v := (4 : Int32)) hx hb d_Map_matchingBlock_38 (by decide) ?_
            refine lv_icmp_ge (tgt := 97) hx hb d_Map_matchingBlock_39 (by decide) (fun h53 => ?_) (fun h53 => ?_)
            · exact absurd h53 (by decide)
            refine lv_aload_n hx hb d_Map_matchingBlock_42 rfl (lv_at hl 4 rfl) ?_
            refine va_get (D := D) (ci := 7) (v := .ref aS) (C := "MappedProcessor$Mapper") (T := T_Map) (N := 3) hx hb hB iw_Map hown hK hP 5 rfl rfl 1 (by decide) (hB _ mw_65) (fun _ h9 => h9) rfl d_Map_matchingBlock_43 ?_
            refine lv_iload_n hx hb d_Map_matchingBlock_46 rfl (lv_at hl 3 rfl) ?_
            refine lv_iconst (v := (2 : Int32)) hx hb d_Map_matchingBlock_47 (by decide) ?_
            refine lv_iload hx hb d_Map_matchingBlock_48 (lv_at hl 0 rfl) ?_
            refine lv_imul hx hb d_Map_matchingBlock_50 ?_
            refine k_fold (6 : Int32) (by decide) ?_
            refine lv_iadd hx hb d_Map_matchingBlock_51 ?_
            refine k_cVi (As := [.int ((if p1 = (0 : Int32) then (16 : Int32) else (24 : Int32)) + (6 : Int32))]) (rest := []) (wr := [(aM, .inr (8, [.ref aW])), (aW, .inl (cW, 16384, .inl w)), (aQ, .inr (7, [.ref aM, .ref aS, .int en]))]) (wj := [(aM, .inr (8, [.ref aW])), (aW, .inl (cW, 16384, .inl w)), (aS, .inr (9, [.ref aG, .ref aX, .int nx, .int lt, .int sm, .int ex])), (aG, .inl (cG, 32, .inl g)), (aX, .inl (cX, 64, .inl sp)), (aQ, .inr (7, [.ref aM, .ref aS, .int en]))]) ⟨hx, hb, hml, hown, hB⟩ (c_Sta_read l D aS aG aX cG cX g sp nx lt sm ex ((if p1 = (0 : Int32) then (16 : Int32) else (24 : Int32)) + (6 : Int32))) yl_Sta_read mw_321 hK hN hP hD hS hA [1, 2] [2, 3, 4] [0, 1, 5] [0, 1, 3, 4, 5, 2] rfl rfl rfl rfl (by decide +kernel) 0 rfl rfl rfl rfl hl.1 rfl (Nat.le_of_ble_eq_true rfl) ⟨Nat.le_of_ble_eq_true rfl, Nat.le_of_ble_eq_true rfl⟩ d_Map_matchingBlock_52 ⟨Nat.le_of_ble_eq_true rfl, Nat.le_of_ble_eq_true rfl⟩ (fun H locs hP hD hS => ?_)
            refine lv_istore (lv' := [(6, .int (f_Sta_read ((if p1 = (0 : Int32) then (16 : Int32) else (24 : Int32)) + (6 : Int32)) sp)), (5, .int (3 : Int32)), (4, .int (if (f_Sta_has (1 : Int32) (16384 : Int32) sp) = (0 : Int32) then (2 : Int32) else (1 : Int32))), (3, .int (if p1 = (0 : Int32) then (16 : Int32) else (24 : Int32))), (0, .ref aQ), (1, .int p0), (2, .int p1)]) hx hb d_Map_matchingBlock_55 hl (by decide) rfl (fun ls hl => ?_)
            refine lv_iload hx hb d_Map_matchingBlock_57 (lv_at hl 0 rfl) ?_
            refine lv_iload hx hb d_Map_matchingBlock_59 (lv_at hl 2 rfl) ?_
            refine lv_iand hx hb d_Map_matchingBlock_61 ?_
            refine lv_if_eq (tgt := 91) hx hb d_Map_matchingBlock_62 (by decide) (fun (h54 : ((f_Sta_read ((if p1 = (0 : Int32) then (16 : Int32) else (24 : Int32)) + (6 : Int32)) sp) &&& (if (f_Sta_has (1 : Int32) (16384 : Int32) sp) = (0 : Int32) then (2 : Int32) else (1 : Int32))) = (0 : Int32)) => ?_) (fun (h54 : ¬ ((f_Sta_read ((if p1 = (0 : Int32) then (16 : Int32) else (24 : Int32)) + (6 : Int32)) sp) &&& (if (f_Sta_has (1 : Int32) (16384 : Int32) sp) = (0 : Int32) then (2 : Int32) else (1 : Int32))) = (0 : Int32)) => ?_)
            · refine lv_iinc (v := (4 : Int32)) (lv' := [(5, .int (4 : Int32)), (6, .int (f_Sta_read ((if p1 = (0 : Int32) then (16 : Int32) else (24 : Int32)) + (6 : Int32)) sp)), (4, .int (if (f_Sta_has (1 : Int32) (16384 : Int32) sp) = (0 : Int32) then (2 : Int32) else (1 : Int32))), (3, .int (if p1 = (0 : Int32) then (16 : Int32) else (24 : Int32))), (0, .ref aQ), (1, .int p0), (2, .int p1)]) hx hb d_Map_matchingBlock_91 hl (k := 1) rfl (by decide) (by decide) rfl (fun ls hl => ?_)
              refine lv_goto (tgt := 36) hx hb d_Map_matchingBlock_94 (by decide) ?_
              refine lv_iload hx hb d_Map_matchingBlock_36 (lv_at hl 0 rfl) ?_
              refine lv_iconst (v := (4 : Int32)) hx hb d_Map_matchingBlock_38 (by decide) ?_
              refine lv_icmp_ge (tgt := 97) hx hb d_Map_matchingBlock_39 (by decide) (fun h55 => ?_) (fun h55 => ?_)
              rotate_left
              · exact absurd (by decide) h55
              refine lv_iconst (v := (-1 : Int32)) hx hb d_Map_matchingBlock_97 (by decide) ?_
              have ef : f_Map_matchingBlock p0 p1 sp = (-1 : Int32) := by unfold f_Map_matchingBlock; rw [if_neg h12, if_neg h42, if_pos h44, if_neg h46, if_neg h52, if_pos h54]
              exact k_iret hx hb hr hlocks hK hP hD hS [0, 1, 2, 3, 4, 5] rfl rfl (by rw [ef] <;> rfl) d_Map_matchingBlock_98
            · refine lv_iload_n hx hb d_Map_matchingBlock_65 rfl (lv_at hl 5 rfl) ?_
              refine lv_iload hx hb d_Map_matchingBlock_66 (lv_at hl 0 rfl) ?_
              refine lv_ixor hx hb d_Map_matchingBlock_68 ?_
              refine lv_sipush (v := (-8192 : Int32)) hx hb d_Map_matchingBlock_69 (by decide) ?_
              refine lv_iand hx hb d_Map_matchingBlock_72 ?_
              refine lv_iload hx hb d_Map_matchingBlock_73 (lv_at hl 0 rfl) ?_
              refine k_cSi (As := [.int (f_Sta_read ((if p1 = (0 : Int32) then (16 : Int32) else (24 : Int32)) + (6 : Int32)) sp)]) (rest := [.int ((p0 ^^^ (f_Sta_read ((if p1 = (0 : Int32) then (16 : Int32) else (24 : Int32)) + (6 : Int32)) sp)) &&& (-8192 : Int32))]) (wr := [(aM, .inr (8, [.ref aW])), (aW, .inl (cW, 16384, .inl w)), (aS, .inr (9, [.ref aG, .ref aX, .int nx, .int lt, .int sm, .int ex])), (aG, .inl (cG, 32, .inl g)), (aX, .inl (cX, 64, .inl sp)), (aQ, .inr (7, [.ref aM, .ref aS, .int en]))]) (wj := [(aM, .inr (8, [.ref aW])), (aW, .inl (cW, 16384, .inl w)), (aS, .inr (9, [.ref aG, .ref aX, .int nx, .int lt, .int sm, .int ex])), (aG, .inl (cG, 32, .inl g)), (aX, .inl (cX, 64, .inl sp)), (aQ, .inr (7, [.ref aM, .ref aS, .int en]))]) ⟨hx, hb, hml, hown, hB⟩ (c_Map_freeBits l D (f_Sta_read ((if p1 = (0 : Int32) then (16 : Int32) else (24 : Int32)) + (6 : Int32)) sp)) yl_Map_freeBits mw_322 hK hN hP hD hS hA [] [] [0, 1, 2, 3, 4, 5] [0, 1, 2, 3, 4, 5] rfl rfl rfl rfl (by decide +kernel) rfl hl.1 rfl (Nat.le_of_ble_eq_true rfl) ⟨Nat.le_of_ble_eq_true rfl, Nat.le_of_ble_eq_true rfl⟩ d_Map_matchingBlock_75 ⟨Nat.le_of_ble_eq_true rfl, Nat.le_of_ble_eq_true rfl⟩ (fun H locs hP hD hS => ?_)
              refine lv_iconst (v := (-1 : Int32)) hx hb d_Map_matchingBlock_78 (by decide) ?_
              refine lv_ixor hx hb d_Map_matchingBlock_79 ?_
              refine lv_iand hx hb d_Map_matchingBlock_80 ?_
              refine lv_if_ne (tgt := 91) hx hb d_Map_matchingBlock_81 (by decide) (fun (h56 : ¬ (((p0 ^^^ (f_Sta_read ((if p1 = (0 : Int32) then (16 : Int32) else (24 : Int32)) + (6 : Int32)) sp)) &&& (-8192 : Int32)) &&& ((f_Map_freeBits (f_Sta_read ((if p1 = (0 : Int32) then (16 : Int32) else (24 : Int32)) + (6 : Int32)) sp)) ^^^ (-1 : Int32))) = (0 : Int32)) => ?_) (fun (h56 : (((p0 ^^^ (f_Sta_read ((if p1 = (0 : Int32) then (16 : Int32) else (24 : Int32)) + (6 : Int32)) sp)) &&& (-8192 : Int32)) &&& ((f_Map_freeBits (f_Sta_read ((if p1 = (0 : Int32) then (16 : Int32) else (24 : Int32)) + (6 : Int32)) sp)) ^^^ (-1 : Int32))) = (0 : Int32)) => ?_)
              · refine lv_iinc (v := (4 : Int32)) (lv' := [(5, .int (4 : Int32)), (6, .int (f_Sta_read ((if p1 = (0 : Int32) then (16 : Int32) else (24 : Int32)) + (6 : Int32)) sp)), (4, .int (if (f_Sta_has (1 : Int32) (16384 : Int32) sp) = (0 : Int32) then (2 : Int32) else (1 : Int32))), (3, .int (if p1 = (0 : Int32) then (16 : Int32) else (24 : Int32))), (0, .ref aQ), (1, .int p0), (2, .int p1)]) hx hb d_Map_matchingBlock_91 hl (k := 1) rfl (by decide) (by decide) rfl (fun ls hl => ?_)
                refine lv_goto (tgt := 36) hx hb d_Map_matchingBlock_94 (by decide) ?_
                refine lv_iload hx hb d_Map_matchingBlock_36 (lv_at hl 0 rfl) ?_
                refine lv_iconst (v := (4 : Int32)) hx hb d_Map_matchingBlock_38 (by decide) ?_
                refine lv_icmp_ge (tgt := 97) hx hb d_Map_matchingBlock_39 (by decide) (fun h57 => ?_) (fun h57 => ?_)
                rotate_left
                · exact absurd (by decide) h57
                refine lv_iconst (v := (-1 : Int32)) hx hb d_Map_matchingBlock_97 (by decide) ?_
                have ef : f_Map_matchingBlock p0 p1 sp = (-1 : Int32) := by unfold f_Map_matchingBlock; rw [if_neg h12, if_neg h42, if_pos h44, if_neg h46, if_neg h52, if_neg h54, if_neg h56]
                exact k_iret hx hb hr hlocks hK hP hD hS [0, 1, 2, 3, 4, 5] rfl rfl (by rw [ef] <;> rfl) d_Map_matchingBlock_98
              · refine lv_iload_n hx hb d_Map_matchingBlock_84 rfl (lv_at hl 3 rfl) ?_
                refine lv_iconst (v := (2 : Int32)) hx hb d_Map_matchingBlock_85 (by decide) ?_
                refine lv_iload hx hb d_Map_matchingBlock_86 (lv_at hl 1 rfl) ?_
                refine lv_imul hx hb d_Map_matchingBlock_88 ?_
                refine k_fold (6 : Int32) (by decide) ?_
                refine lv_iadd hx hb d_Map_matchingBlock_89 ?_
                have ef : f_Map_matchingBlock p0 p1 sp = ((if p1 = (0 : Int32) then (16 : Int32) else (24 : Int32)) + (6 : Int32)) := by unfold f_Map_matchingBlock; rw [if_neg h12, if_neg h42, if_pos h44, if_neg h46, if_neg h52, if_neg h54, if_pos h56]
                exact k_iret hx hb hr hlocks hK hP hD hS [0, 1, 2, 3, 4, 5] rfl rfl (by rw [ef] <;> rfl) d_Map_matchingBlock_90
          · refine lv_iload_n hx hb d_Map_matchingBlock_84 rfl (lv_at hl 3 rfl) ?_
            refine lv_iconst (v := (2 : Int32)) hx hb d_Map_matchingBlock_85 (by decide) ?_
            refine lv_iload hx hb d_Map_matchingBlock_86 (lv_at hl 1 rfl) ?_
            refine lv_imul hx hb d_Map_matchingBlock_88 ?_
            refine k_fold (4 : Int32) (by decide) ?_
            refine lv_iadd hx hb d_Map_matchingBlock_89 ?_
            have ef : f_Map_matchingBlock p0 p1 sp = ((if p1 = (0 : Int32) then (16 : Int32) else (24 : Int32)) + (4 : Int32)) := by unfold f_Map_matchingBlock; rw [if_neg h12, if_neg h42, if_pos h44, if_neg h46, if_pos h52]
            exact k_iret hx hb hr hlocks hK hP hD hS [0, 1, 2, 3, 4, 5] rfl rfl (by rw [ef] <;> rfl) d_Map_matchingBlock_90
      · refine lv_iload_n hx hb d_Map_matchingBlock_65 rfl (lv_at hl 5 rfl) ?_
        refine lv_iload hx hb d_Map_matchingBlock_66 (lv_at hl 0 rfl) ?_
        refine lv_ixor hx hb d_Map_matchingBlock_68 ?_
        refine lv_sipush (v := (-8192 : Int32)) hx hb d_Map_matchingBlock_69 (by decide) ?_
        refine lv_iand hx hb d_Map_matchingBlock_72 ?_
        refine lv_iload hx hb d_Map_matchingBlock_73 (lv_at hl 0 rfl) ?_
        refine k_cSi (As := [.int (f_Sta_read ((if p1 = (0 : Int32) then (16 : Int32) else (24 : Int32)) + (2 : Int32)) sp)]) (rest := [.int ((p0 ^^^ (f_Sta_read ((if p1 = (0 : Int32) then (16 : Int32) else (24 : Int32)) + (2 : Int32)) sp)) &&& (-8192 : Int32))]) (wr := [(aM, .inr (8, [.ref aW])), (aW, .inl (cW, 16384, .inl w)), (aS, .inr (9, [.ref aG, .ref aX, .int nx, .int lt, .int sm, .int ex])), (aG, .inl (cG, 32, .inl g)), (aX, .inl (cX, 64, .inl sp)), (aQ, .inr (7, [.ref aM, .ref aS, .int en]))]) (wj := [(aM, .inr (8, [.ref aW])), (aW, .inl (cW, 16384, .inl w)), (aS, .inr (9, [.ref aG, .ref aX, .int nx, .int lt, .int sm, .int ex])), (aG, .inl (cG, 32, .inl g)), (aX, .inl (cX, 64, .inl sp)), (aQ, .inr (7, [.ref aM, .ref aS, .int en]))]) ⟨hx, hb, hml, hown, hB⟩ (c_Map_freeBits l D (f_Sta_read ((if p1 = (0 : Int32) then (16 : Int32) else (24 : Int32)) + (2 : Int32)) sp)) yl_Map_freeBits mw_322 hK hN hP hD hS hA [] [] [0, 1, 2, 3, 4, 5] [0, 1, 2, 3, 4, 5] rfl rfl rfl rfl (by decide +kernel) rfl hl.1 rfl (Nat.le_of_ble_eq_true rfl) ⟨Nat.le_of_ble_eq_true rfl, Nat.le_of_ble_eq_true rfl⟩ d_Map_matchingBlock_75 ⟨Nat.le_of_ble_eq_true rfl, Nat.le_of_ble_eq_true rfl⟩ (fun H locs hP hD hS => ?_)
        refine lv_iconst (v := (-1 : Int32)) hx hb d_Map_matchingBlock_78 (by decide) ?_
        refine lv_ixor hx hb d_Map_matchingBlock_79 ?_
        refine lv_iand hx hb d_Map_matchingBlock_80 ?_
        refine lv_if_ne (tgt := 91) hx hb d_Map_matchingBlock_81 (by decide) (fun (h58 : ¬ (((p0 ^^^ (f_Sta_read ((if p1 = (0 : Int32) then (16 : Int32) else (24 : Int32)) + (2 : Int32)) sp)) &&& (-8192 : Int32)) &&& ((f_Map_freeBits (f_Sta_read ((if p1 = (0 : Int32) then (16 : Int32) else (24 : Int32)) + (2 : Int32)) sp)) ^^^ (-1 : Int32))) = (0 : Int32)) => ?_) (fun (h58 : (((p0 ^^^ (f_Sta_read ((if p1 = (0 : Int32) then (16 : Int32) else (24 : Int32)) + (2 : Int32)) sp)) &&& (-8192 : Int32)) &&& ((f_Map_freeBits (f_Sta_read ((if p1 = (0 : Int32) then (16 : Int32) else (24 : Int32)) + (2 : Int32)) sp)) ^^^ (-1 : Int32))) = (0 : Int32)) => ?_)
        · refine lv_iinc (v := (2 : Int32)) (lv' := [(5, .int (2 : Int32)), (6, .int (f_Sta_read ((if p1 = (0 : Int32) then (16 : Int32) else (24 : Int32)) + (2 : Int32)) sp)), (4, .int (if (f_Sta_has (1 : Int32) (16384 : Int32) sp) = (0 : Int32) then (2 : Int32) else (1 : Int32))), (3, .int (if p1 = (0 : Int32) then (16 : Int32) else (24 : Int32))), (0, .ref aQ), (1, .int p0), (2, .int p1)]) hx hb d_Map_matchingBlock_91 hl (k := 1) rfl (by decide) (by decide) rfl (fun ls hl => ?_)
          refine lv_goto (tgt := 36) hx hb d_Map_matchingBlock_94 (by decide) ?_
          refine lv_iload hx hb d_Map_matchingBlock_36 (lv_at hl 0 rfl) ?_
          refine lv_iconst (v := (4 : Int32)) hx hb d_Map_matchingBlock_38 (by decide) ?_
          refine lv_icmp_ge (tgt := 97) hx hb d_Map_matchingBlock_39 (by decide) (fun h59 => ?_) (fun h59 => ?_)
          · exact absurd h59 (by decide)
          refine lv_aload_n hx hb d_Map_matchingBlock_42 rfl (lv_at hl 4 rfl) ?_
          refine va_get (D := D) (ci := 7) (v := .ref aS) (C := "MappedProcessor$Mapper") (T := T_Map) (N := 3) hx hb hB iw_Map hown hK hP 5 rfl rfl 1 (by decide) (hB _ mw_65) (fun _ h9 => h9) rfl d_Map_matchingBlock_43 ?_
          refine lv_iload_n hx hb d_Map_matchingBlock_46 rfl (lv_at hl 3 rfl) ?_
          refine lv_iconst (v := (2 : Int32)) hx hb d_Map_matchingBlock_47 (by decide) ?_
          refine lv_iload hx hb d_Map_matchingBlock_48 (lv_at hl 0 rfl) ?_
          refine lv_imul hx hb d_Map_matchingBlock_50 ?_
          refine k_fold (4 : Int32) (by decide) ?_
          refine lv_iadd hx hb d_Map_matchingBlock_51 ?_
          refine k_cVi (As := [.int ((if p1 = (0 : Int32) then (16 : Int32) else (24 : Int32)) + (4 : Int32))]) (rest := []) (wr := [(aM, .inr (8, [.ref aW])), (aW, .inl (cW, 16384, .inl w)), (aQ, .inr (7, [.ref aM, .ref aS, .int en]))]) (wj := [(aM, .inr (8, [.ref aW])), (aW, .inl (cW, 16384, .inl w)), (aS, .inr (9, [.ref aG, .ref aX, .int nx, .int lt, .int sm, .int ex])), (aG, .inl (cG, 32, .inl g)), (aX, .inl (cX, 64, .inl sp)), (aQ, .inr (7, [.ref aM, .ref aS, .int en]))]) ⟨hx, hb, hml, hown, hB⟩ (c_Sta_read l D aS aG aX cG cX g sp nx lt sm ex ((if p1 = (0 : Int32) then (16 : Int32) else (24 : Int32)) + (4 : Int32))) yl_Sta_read mw_321 hK hN hP hD hS hA [1, 2] [2, 3, 4] [0, 1, 5] [0, 1, 3, 4, 5, 2] rfl rfl rfl rfl (by decide +kernel) 0 rfl rfl rfl rfl hl.1 rfl (Nat.le_of_ble_eq_true rfl) ⟨Nat.le_of_ble_eq_true rfl, Nat.le_of_ble_eq_true rfl⟩ d_Map_matchingBlock_52 ⟨Nat.le_of_ble_eq_true rfl, Nat.le_of_ble_eq_true rfl⟩ (fun H locs hP hD hS => ?_)
          refine lv_istore (lv' := [(6, .int (f_Sta_read ((if p1 = (0 : Int32) then (16 : Int32) else (24 : Int32)) + (4 : Int32)) sp)), (5, .int (2 : Int32)), (4, .int (if (f_Sta_has (1 : Int32) (16384 : Int32) sp) = (0 : Int32) then (2 : Int32) else (1 : Int32))), (3, .int (if p1 = (0 : Int32) then (16 : Int32) else (24 : Int32))), (0, .ref aQ), (1, .int p0), (2, .int p1)]) hx hb d_Map_matchingBlock_55 hl (by decide) rfl (fun ls hl => ?_)
          refine lv_iload hx hb d_Map_matchingBlock_57 (lv_at hl 0 rfl) ?_
          refine lv_iload hx hb d_Map_matchingBlock_59 (lv_at hl 2 rfl) ?_
          refine lv_iand hx hb d_Map_matchingBlock_61 ?_
          refine lv_if_eq (tgt := 91) hx hb d_Map_matchingBlock_62 (by decide) (fun (h60 : ((f_Sta_read ((if p1 = (0 : Int32) then (16 : Int32) else (24 : Int32)) + (4 : Int32)) sp) &&& (if (f_Sta_has (1 : Int32) (16384 : Int32) sp) = (0 : Int32) then (2 : Int32) else (1 : Int32))) = (0 : Int32)) => ?_) (fun (h60 : ¬ ((f_Sta_read ((if p1 = (0 : Int32) then (16 : Int32) else (24 : Int32)) + (4 : Int32)) sp) &&& (if (f_Sta_has (1 : Int32) (16384 : Int32) sp) = (0 : Int32) then (2 : Int32) else (1 : Int32))) = (0 : Int32)) => ?_)
          · refine lv_iinc (v := (3 : Int32)) (lv' := [(5, .int (3 : Int32)), (6, .int (f_Sta_read ((if p1 = (0 : Int32) then (16 : Int32) else (24 : Int32)) + (4 : Int32)) sp)), (4, .int (if (f_Sta_has (1 : Int32) (16384 : Int32) sp) = (0 : Int32) then (2 : Int32) else (1 : Int32))), (3, .int (if p1 = (0 : Int32) then (16 : Int32) else (24 : Int32))), (0, .ref aQ), (1, .int p0), (2, .int p1)]) hx hb d_Map_matchingBlock_91 hl (k := 1) rfl (by decide) (by decide) rfl (fun ls hl => ?_)
            refine lv_goto (tgt := 36) hx hb d_Map_matchingBlock_94 (by decide) ?_
            refine lv_iload hx hb d_Map_matchingBlock_36 (lv_at hl 0 rfl) ?_
            refine lv_iconst (v := (4 : Int32)) hx hb d_Map_matchingBlock_38 (by decide) ?_
            refine lv_icmp_ge (tgt := 97) hx hb d_Map_matchingBlock_39 (by decide) (fun h61 => ?_) (fun h61 => ?_)
            · exact absurd h61 (by decide)
            refine lv_aload_n hx hb d_Map_matchingBlock_42 rfl (lv_at hl 4 rfl) ?_
            refine va_get (D := D) (ci := 7) (v := .ref aS) (C := "MappedProcessor$Mapper") (T := T_Map) (N := 3) hx hb hB iw_Map hown hK hP 5 rfl rfl 1 (by decide) (hB _ mw_65) (fun _ h9 => h9) rfl d_Map_matchingBlock_43 ?_
            refine lv_iload_n hx hb d_Map_matchingBlock_46 rfl (lv_at hl 3 rfl) ?_
            refine lv_iconst (v := (2 : Int32)) hx hb d_Map_matchingBlock_47 (by decide) ?_
            refine lv_iload hx hb d_Map_matchingBlock_48 (lv_at hl 0 rfl) ?_
            refine lv_imul hx hb d_Map_matchingBlock_50 ?_
            refine k_fold (6 : Int32) (by decide) ?_
            refine lv_iadd hx hb d_Map_matchingBlock_51 ?_
            refine k_cVi (As := [.int ((if p1 = (0 : Int32) then (16 : Int32) else (24 : Int32)) + (6 : Int32))]) (rest := []) (wr := [(aM, .inr (8, [.ref aW])), (aW, .inl (cW, 16384, .inl w)), (aQ, .inr (7, [.ref aM, .ref aS, .int en]))]) (wj := [(aM, .inr (8, [.ref aW])), (aW, .inl (cW, 16384, .inl w)), (aS, .inr (9, [.ref aG, .ref aX, .int nx, .int lt, .int sm, .int ex])), (aG, .inl (cG, 32, .inl g)), (aX, .inl (cX, 64, .inl sp)), (aQ, .inr (7, [.ref aM, .ref aS, .int en]))]) ⟨hx, hb, hml, hown, hB⟩ (c_Sta_read l D aS aG aX cG cX g sp nx lt sm ex ((if p1 = (0 : Int32) then (16 : Int32) else (24 : Int32)) + (6 : Int32))) yl_Sta_read mw_321 hK hN hP hD hS hA [1, 2] [2, 3, 4] [0, 1, 5] [0, 1, 3, 4, 5, 2] rfl rfl rfl rfl (by decide +kernel) 0 rfl rfl rfl rfl hl.1 rfl (Nat.le_of_ble_eq_true rfl) ⟨Nat.le_of_ble_eq_true rfl, Nat.le_of_ble_eq_true rfl⟩ d_Map_matchingBlock_52 ⟨Nat.le_of_ble_eq_true rfl, Nat.le_of_ble_eq_true rfl⟩ (fun H locs hP hD hS => ?_)
            refine lv_istore (lv' := [(6, .int (f_Sta_read ((if p1 = (0 : Int32) then (16 : Int32) else (24 : Int32)) + (6 : Int32)) sp)), (5, .int (3 : Int32)), (4, .int (if (f_Sta_has (1 : Int32) (16384 : Int32) sp) = (0 : Int32) then (2 : Int32) else (1 : Int32))), (3, .int (if p1 = (0 : Int32) then (16 : Int32) else (24 : Int32))), (0, .ref aQ), (1, .int p0), (2, .int p1)]) hx hb d_Map_matchingBlock_55 hl (by decide) rfl (fun ls hl => ?_)
            refine lv_iload hx hb d_Map_matchingBlock_57 (lv_at hl 0 rfl) ?_
            refine lv_iload hx hb d_Map_matchingBlock_59 (lv_at hl 2 rfl) ?_
            refine lv_iand hx hb d_Map_matchingBlock_61 ?_
            refine lv_if_eq (tgt := 91) hx hb d_Map_matchingBlock_62 (by decide) (fun (h62 : ((f_Sta_read ((if p1 = (0 : Int32) then (16 : Int32) else (24 : Int32)) + (6 : Int32)) sp) &&& (if (f_Sta_has (1 : Int32) (16384 : Int32) sp) = (0 : Int32) then (2 : Int32) else (1 : Int32))) = (0 : Int32)) => ?_) (fun (h62 : ¬ ((f_Sta_read ((if p1 = (0 : Int32) then (16 : Int32) else (24 : Int32)) + (6 : Int32)) sp) &&& (if (f_Sta_has (1 : Int32) (16384 : Int32) sp) = (0 : Int32) then (2 : Int32) else (1 : Int32))) = (0 : Int32)) => ?_)
            · refine lv_iinc (v := (4 : Int32)) (lv' := [(5, .int (4 : Int32)), (6, .int (f_Sta_read ((if p1 = (0 : Int32) then (16 : Int32) else (24 : Int32)) + (6 : Int32)) sp)), (4, .int (if (f_Sta_has (1 : Int32) (16384 : Int32) sp) = (0 : Int32) then (2 : Int32) else (1 : Int32))), (3, .int (if p1 = (0 : Int32) then (16 : Int32) else (24 : Int32))), (0, .ref aQ), (1, .int p0), (2, .int p1)]) hx hb d_Map_matchingBlock_91 hl (k := 1) rfl (by decide) (by decide) rfl (fun ls hl => ?_)
              refine lv_goto (tgt := 36) hx hb d_Map_matchingBlock_94 (by decide) ?_
              refine lv_iload hx hb d_Map_matchingBlock_36 (lv_at hl 0 rfl) ?_
              refine lv_iconst (v := (4 : Int32)) hx hb d_Map_matchingBlock_38 (by decide) ?_
              refine lv_icmp_ge (tgt := 97) hx hb d_Map_matchingBlock_39 (by decide) (fun h63 => ?_) (fun h63 => ?_)
              rotate_left
              · exact absurd (by decide) h63
              refine lv_iconst (v := (-1 : Int32)) hx hb d_Map_matchingBlock_97 (by decide) ?_
              have ef : f_Map_matchingBlock p0 p1 sp = (-1 : Int32) := by unfold f_Map_matchingBlock; rw [if_neg h12, if_neg h42, if_neg h44, if_neg h58, if_pos h60, if_pos h62]
              exact k_iret hx hb hr hlocks hK hP hD hS [0, 1, 2, 3, 4, 5] rfl rfl (by rw [ef] <;> rfl) d_Map_matchingBlock_98
            · refine lv_iload_n hx hb d_Map_matchingBlock_65 rfl (lv_at hl 5 rfl) ?_
              refine lv_iload hx hb d_Map_matchingBlock_66 (lv_at hl 0 rfl) ?_
              refine lv_ixor hx hb d_Map_matchingBlock_68 ?_
              refine lv_sipush (v := (-8192 : Int32)) hx hb d_Map_matchingBlock_69 (by decide) ?_
              refine lv_iand hx hb d_Map_matchingBlock_72 ?_
              refine lv_iload hx hb d_Map_matchingBlock_73 (lv_at hl 0 rfl) ?_
              refine k_cSi (As := [.int (f_Sta_read ((if p1 = (0 : Int32) then (16 : Int32) else (24 : Int32)) + (6 : Int32)) sp)]) (rest := [.int ((p0 ^^^ (f_Sta_read ((if p1 = (0 : Int32) then (16 : Int32) else (24 : Int32)) + (6 : Int32)) sp)) &&& (-8192 : Int32))]) (wr := [(aM, .inr (8, [.ref aW])), (aW, .inl (cW, 16384, .inl w)), (aS, .inr (9, [.ref aG, .ref aX, .int nx, .int lt, .int sm, .int ex])), (aG, .inl (cG, 32, .inl g)), (aX, .inl (cX, 64, .inl sp)), (aQ, .inr (7, [.ref aM, .ref aS, .int en]))]) (wj := [(aM, .inr (8, [.ref aW])), (aW, .inl (cW, 16384, .inl w)), (aS, .inr (9, [.ref aG, .ref aX, .int nx, .int lt, .int sm, .int ex])), (aG, .inl (cG, 32, .inl g)), (aX, .inl (cX, 64, .inl sp)), (aQ, .inr (7, [.ref aM, .ref aS, .int en]))]) ⟨hx, hb, hml, hown, hB⟩ (c_Map_freeBits l D (f_Sta_read ((if p1 = (0 : Int32) then (16 : Int32) else (24 : Int32)) + (6 : Int32)) sp)) yl_Map_freeBits mw_322 hK hN hP hD hS hA [] [] [0, 1, 2, 3, 4, 5] [0, 1, 2, 3, 4, 5] rfl rfl rfl rfl (by decide +kernel) rfl hl.1 rfl (Nat.le_of_ble_eq_true rfl) ⟨Nat.le_of_ble_eq_true rfl, Nat.le_of_ble_eq_true rfl⟩ d_Map_matchingBlock_75 ⟨Nat.le_of_ble_eq_true rfl, Nat.le_of_ble_eq_true rfl⟩ (fun H locs hP hD hS => ?_)
              refine lv_iconst (v := (-1 : Int32)) hx hb d_Map_matchingBlock_78 (by decide) ?_
              refine lv_ixor hx hb d_Map_matchingBlock_79 ?_
              refine lv_iand hx hb d_Map_matchingBlock_80 ?_
              refine lv_if_ne (tgt := 91) hx hb d_Map_matchingBlock_81 (by decide) (fun (h64 : ¬ (((p0 ^^^ (f_Sta_read ((if p1 = (0 : Int32) then (16 : Int32) else (24 : Int32)) + (6 : Int32)) sp)) &&& (-8192 : Int32)) &&& ((f_Map_freeBits (f_Sta_read ((if p1 = (0 : Int32) then (16 : Int32) else (24 : Int32)) + (6 : Int32)) sp)) ^^^ (-1 : Int32))) = (0 : Int32)) => ?_) (fun (h64 : (((p0 ^^^ (f_Sta_read ((if p1 = (0 : Int32) then (16 : Int32) else (24 : Int32)) + (6 : Int32)) sp)) &&& (-8192 : Int32)) &&& ((f_Map_freeBits (f_Sta_read ((if p1 = (0 : Int32) then (16 : Int32) else (24 : Int32)) + (6 : Int32)) sp)) ^^^ (-1 : Int32))) = (0 : Int32)) => ?_)
              · refine lv_iinc (v := (4 : Int32)) (lv' := [(5, .int (4 : Int32)), (6, .int (f_Sta_read ((if p1 = (0 : Int32) then (16 : Int32) else (24 : Int32)) + (6 : Int32)) sp)), (4, .int (if (f_Sta_has (1 : Int32) (16384 : Int32) sp) = (0 : Int32) then (2 : Int32) else (1 : Int32))), (3, .int (if p1 = (0 : Int32) then (16 : Int32) else (24 : Int32))), (0, .ref aQ), (1, .int p0), (2, .int p1)]) hx hb d_Map_matchingBlock_91 hl (k := 1) rfl (by decide) (by decide) rfl (fun ls hl => ?_)
                refine lv_goto (tgt := 36) hx hb d_Map_matchingBlock_94 (by decide) ?_
                refine lv_iload hx hb d_Map_matchingBlock_36 (lv_at hl 0 rfl) ?_
                refine lv_iconst (v := (4 : Int32)) hx hb d_Map_matchingBlock_38 (by decide) ?_
                refine lv_icmp_ge (tgt := 97) hx hb d_Map_matchingBlock_39 (by decide) (fun h65 => ?_) (fun h65 => ?_)
                rotate_left
                · exact absurd (by decide) h65
                refine lv_iconst (v := (-1 : Int32)) hx hb d_Map_matchingBlock_97 (by decide) ?_
                have ef : f_Map_matchingBlock p0 p1 sp = (-1 : Int32) := by unfold f_Map_matchingBlock; rw [if_neg h12, if_neg h42, if_neg h44, if_neg h58, if_pos h60, if_neg h62, if_neg h64]
                exact k_iret hx hb hr hlocks hK hP hD hS [0, 1, 2, 3, 4, 5] rfl rfl (by rw [ef] <;> rfl) d_Map_matchingBlock_98
              · refine lv_iload_n hx hb d_Map_matchingBlock_84 rfl (lv_at hl 3 rfl) ?_
                refine lv_iconst (v := (2 : Int32)) hx hb d_Map_matchingBlock_85 (by decide) ?_
                refine lv_iload hx hb d_Map_matchingBlock_86 (lv_at hl 1 rfl) ?_
                refine lv_imul hx hb d_Map_matchingBlock_88 ?_
                refine k_fold (6 : Int32) (by decide) ?_
                refine lv_iadd hx hb d_Map_matchingBlock_89 ?_
                have ef : f_Map_matchingBlock p0 p1 sp = ((if p1 = (0 : Int32) then (16 : Int32) else (24 : Int32)) + (6 : Int32)) := by unfold f_Map_matchingBlock; rw [if_neg h12, if_neg h42, if_neg h44, if_neg h58, if_pos h60, if_neg h62, if_pos h64]
                exact k_iret hx hb hr hlocks hK hP hD hS [0, 1, 2, 3, 4, 5] rfl rfl (by rw [ef] <;> rfl) d_Map_matchingBlock_90
          · refine lv_iload_n hx hb d_Map_matchingBlock_65 rfl (lv_at hl 5 rfl) ?_
            refine lv_iload hx hb d_Map_matchingBlock_66 (lv_at hl 0 rfl) ?_
            refine lv_ixor hx hb d_Map_matchingBlock_68 ?_
            refine lv_sipush (v := (-8192 : Int32)) hx hb d_Map_matchingBlock_69 (by decide) ?_
            refine lv_iand hx hb d_Map_matchingBlock_72 ?_
            refine lv_iload hx hb d_Map_matchingBlock_73 (lv_at hl 0 rfl) ?_
            refine k_cSi (As := [.int (f_Sta_read ((if p1 = (0 : Int32) then (16 : Int32) else (24 : Int32)) + (4 : Int32)) sp)]) (rest := [.int ((p0 ^^^ (f_Sta_read ((if p1 = (0 : Int32) then (16 : Int32) else (24 : Int32)) + (4 : Int32)) sp)) &&& (-8192 : Int32))]) (wr := [(aM, .inr (8, [.ref aW])), (aW, .inl (cW, 16384, .inl w)), (aS, .inr (9, [.ref aG, .ref aX, .int nx, .int lt, .int sm, .int ex])), (aG, .inl (cG, 32, .inl g)), (aX, .inl (cX, 64, .inl sp)), (aQ, .inr (7, [.ref aM, .ref aS, .int en]))]) (wj := [(aM, .inr (8, [.ref aW])), (aW, .inl (cW, 16384, .inl w)), (aS, .inr (9, [.ref aG, .ref aX, .int nx, .int lt, .int sm, .int ex])), (aG, .inl (cG, 32, .inl g)), (aX, .inl (cX, 64, .inl sp)), (aQ, .inr (7, [.ref aM, .ref aS, .int en]))]) ⟨hx, hb, hml, hown, hB⟩ (c_Map_freeBits l D (f_Sta_read ((if p1 = (0 : Int32) then (16 : Int32) else (24 : Int32)) + (4 : Int32)) sp)) yl_Map_freeBits mw_322 hK hN hP hD hS hA [] [] [0, 1, 2, 3, 4, 5] [0, 1, 2, 3, 4, 5] rfl rfl rfl rfl (by decide +kernel) rfl hl.1 rfl (Nat.le_of_ble_eq_true rfl) ⟨Nat.le_of_ble_eq_true rfl, Nat.le_of_ble_eq_true rfl⟩ d_Map_matchingBlock_75 ⟨Nat.le_of_ble_eq_true rfl, Nat.le_of_ble_eq_true rfl⟩ (fun H locs hP hD hS => ?_)
            refine lv_iconst (v := (-1 : Int32)) hx hb d_Map_matchingBlock_78 (by decide) ?_
            refine lv_ixor hx hb d_Map_matchingBlock_79 ?_
            refine lv_iand hx hb d_Map_matchingBlock_80 ?_
            refine lv_if_ne (tgt := 91) hx hb d_Map_matchingBlock_81 (by decide) (fun (h66 : ¬ (((p0 ^^^ (f_Sta_read ((if p1 = (0 : Int32) then (16 : Int32) else (24 : Int32)) + (4 : Int32)) sp)) &&& (-8192 : Int32)) &&& ((f_Map_freeBits (f_Sta_read ((if p1 = (0 : Int32) then (16 : Int32) else (24 : Int32)) + (4 : Int32)) sp)) ^^^ (-1 : Int32))) = (0 : Int32)) => ?_) (fun (h66 : (((p0 ^^^ (f_Sta_read ((if p1 = (0 : Int32) then (16 : Int32) else (24 : Int32)) + (4 : Int32)) sp)) &&& (-8192 : Int32)) &&& ((f_Map_freeBits (f_Sta_read ((if p1 = (0 : Int32) then (16 : Int32) else (24 : Int32)) + (4 : Int32)) sp)) ^^^ (-1 : Int32))) = (0 : Int32)) => ?_)
            · refine lv_iinc (v := (3 : Int32)) (lv' := [(5, .int (3 : Int32)), (6, .int (f_Sta_read ((if p1 = (0 : Int32) then (16 : Int32) else (24 : Int32)) + (4 : Int32)) sp)), (4, .int (if (f_Sta_has (1 : Int32) (16384 : Int32) sp) = (0 : Int32) then (2 : Int32) else (1 : Int32))), (3, .int (if p1 = (0 : Int32) then (16 : Int32) else (24 : Int32))), (0, .ref aQ), (1, .int p0), (2, .int p1)]) hx hb d_Map_matchingBlock_91 hl (k := 1) rfl (by decide) (by decide) rfl (fun ls hl => ?_)
              refine lv_goto (tgt := 36) hx hb d_Map_matchingBlock_94 (by decide) ?_
              refine lv_iload hx hb d_Map_matchingBlock_36 (lv_at hl 0 rfl) ?_
              refine lv_iconst (v := (4 : Int32)) hx hb d_Map_matchingBlock_38 (by decide) ?_
              refine lv_icmp_ge (tgt := 97) hx hb d_Map_matchingBlock_39 (by decide) (fun h67 => ?_) (fun h67 => ?_)
              · exact absurd h67 (by decide)
              refine lv_aload_n hx hb d_Map_matchingBlock_42 rfl (lv_at hl 4 rfl) ?_
              refine va_get (D := D) (ci := 7) (v := .ref aS) (C := "MappedProcessor$Mapper") (T := T_Map) (N := 3) hx hb hB iw_Map hown hK hP 5 rfl rfl 1 (by decide) (hB _ mw_65) (fun _ h9 => h9) rfl d_Map_matchingBlock_43 ?_
              refine lv_iload_n hx hb d_Map_matchingBlock_46 rfl (lv_at hl 3 rfl) ?_
              refine lv_iconst (v := (2 : Int32)) hx hb d_Map_matchingBlock_47 (by decide) ?_
              refine lv_iload hx hb d_Map_matchingBlock_48 (lv_at hl 0 rfl) ?_
              refine lv_imul hx hb d_Map_matchingBlock_50 ?_
              refine k_fold (6 : Int32) (by decide) ?_
              refine lv_iadd hx hb d_Map_matchingBlock_51 ?_
              refine k_cVi (As := [.int ((if p1 = (0 : Int32) then (16 : Int32) else (24 : Int32)) + (6 : Int32))]) (rest := []) (wr := [(aM, .inr (8, [.ref aW])), (aW, .inl (cW, 16384, .inl w)), (aQ, .inr (7, [.ref aM, .ref aS, .int en]))]) (wj := [(aM, .inr (8, [.ref aW])), (aW, .inl (cW, 16384, .inl w)), (aS, .inr (9, [.ref aG, .ref aX, .int nx, .int lt, .int sm, .int ex])), (aG, .inl (cG, 32, .inl g)), (aX, .inl (cX, 64, .inl sp)), (aQ, .inr (7, [.ref aM, .ref aS, .int en]))]) ⟨hx, hb, hml, hown, hB⟩ (c_Sta_read l D aS aG aX cG cX g sp nx lt sm ex ((if p1 = (0 : Int32) then (16 : Int32) else (24 : Int32)) + (6 : Int32))) yl_Sta_read mw_321 hK hN hP hD hS hA [1, 2] [2, 3, 4] [0, 1, 5] [0, 1, 3, 4, 5, 2] rfl rfl rfl rfl (by decide +kernel) 0 rfl rfl rfl rfl hl.1 rfl (Nat.le_of_ble_eq_true rfl) ⟨Nat.le_of_ble_eq_true rfl, Nat.le_of_ble_eq_true rfl⟩ d_Map_matchingBlock_52 ⟨Nat.le_of_ble_eq_true rfl, Nat.le_of_ble_eq_true rfl⟩ (fun H locs hP hD hS => ?_)
              refine lv_istore (lv' := [(6, .int (f_Sta_read ((if p1 = (0 : Int32) then (16 : Int32) else (24 : Int32)) + (6 : Int32)) sp)), (5, .int (3 : Int32)), (4, .int (if (f_Sta_has (1 : Int32) (16384 : Int32) sp) = (0 : Int32) then (2 : Int32) else (1 : Int32))), (3, .int (if p1 = (0 : Int32) then (16 : Int32) else (24 : Int32))), (0, .ref aQ), (1, .int p0), (2, .int p1)]) hx hb d_Map_matchingBlock_55 hl (by decide) rfl (fun ls hl => ?_)
              refine lv_iload hx hb d_Map_matchingBlock_57 (lv_at hl 0 rfl) ?_
              refine lv_iload hx hb d_Map_matchingBlock_59 (lv_at hl 2 rfl) ?_
              refine lv_iand hx hb d_Map_matchingBlock_61 ?_
              refine lv_if_eq (tgt := 91) hx hb d_Map_matchingBlock_62 (by decide) (fun (h68 : ((f_Sta_read ((if p1 = (0 : Int32) then (16 : Int32) else (24 : Int32)) + (6 : Int32)) sp) &&& (if (f_Sta_has (1 : Int32) (16384 : Int32) sp) = (0 : Int32) then (2 : Int32) else (1 : Int32))) = (0 : Int32)) => ?_) (fun (h68 : ¬ ((f_Sta_read ((if p1 = (0 : Int32) then (16 : Int32) else (24 : Int32)) + (6 : Int32)) sp) &&& (if (f_Sta_has (1 : Int32) (16384 : Int32) sp) = (0 : Int32) then (2 : Int32) else (1 : Int32))) = (0 : Int32)) => ?_)
              · refine lv_iinc (v := (4 : Int32)) (lv' := [(5, .int (4 : Int32)), (6, .int (f_Sta_read ((if p1 = (0 : Int32) then (16 : Int32) else (24 : Int32)) + (6 : Int32)) sp)), (4, .int (if (f_Sta_has (1 : Int32) (16384 : Int32) sp) = (0 : Int32) then (2 : Int32) else (1 : Int32))), (3, .int (if p1 = (0 : Int32) then (16 : Int32) else (24 : Int32))), (0, .ref aQ), (1, .int p0), (2, .int p1)]) hx hb d_Map_matchingBlock_91 hl (k := 1) rfl (by decide) (by decide) rfl (fun ls hl => ?_)
                refine lv_goto (tgt := 36) hx hb d_Map_matchingBlock_94 (by decide) ?_
                refine lv_iload hx hb d_Map_matchingBlock_36 (lv_at hl 0 rfl) ?_
                refine lv_iconst (v := (4 : Int32)) hx hb d_Map_matchingBlock_38 (by decide) ?_
                refine lv_icmp_ge (tgt := 97) hx hb d_Map_matchingBlock_39 (by decide) (fun h69 => ?_) (fun h69 => ?_)
                rotate_left
                · exact absurd (by decide) h69
                refine lv_iconst (v := (-1 : Int32)) hx hb d_Map_matchingBlock_97 (by decide) ?_
                have ef : f_Map_matchingBlock p0 p1 sp = (-1 : Int32) := by unfold f_Map_matchingBlock; rw [if_neg h12, if_neg h42, if_neg h44, if_neg h58, if_neg h60, if_neg h66, if_pos h68]
                exact k_iret hx hb hr hlocks hK hP hD hS [0, 1, 2, 3, 4, 5] rfl rfl (by rw [ef] <;> rfl) d_Map_matchingBlock_98
              · refine lv_iload_n hx hb d_Map_matchingBlock_65 rfl (lv_at hl 5 rfl) ?_
                refine lv_iload hx hb d_Map_matchingBlock_66 (lv_at hl 0 rfl) ?_
                refine lv_ixor hx hb d_Map_matchingBlock_68 ?_
                refine lv_sipush (v := (-8192 : Int32)) hx hb d_Map_matchingBlock_69 (by decide) ?_
                refine lv_iand hx hb d_Map_matchingBlock_72 ?_
                refine lv_iload hx hb d_Map_matchingBlock_73 (lv_at hl 0 rfl) ?_
                refine k_cSi (As := [.int (f_Sta_read ((if p1 = (0 : Int32) then (16 : Int32) else (24 : Int32)) + (6 : Int32)) sp)]) (rest := [.int ((p0 ^^^ (f_Sta_read ((if p1 = (0 : Int32) then (16 : Int32) else (24 : Int32)) + (6 : Int32)) sp)) &&& (-8192 : Int32))]) (wr := [(aM, .inr (8, [.ref aW])), (aW, .inl (cW, 16384, .inl w)), (aS, .inr (9, [.ref aG, .ref aX, .int nx, .int lt, .int sm, .int ex])), (aG, .inl (cG, 32, .inl g)), (aX, .inl (cX, 64, .inl sp)), (aQ, .inr (7, [.ref aM, .ref aS, .int en]))]) (wj := [(aM, .inr (8, [.ref aW])), (aW, .inl (cW, 16384, .inl w)), (aS, .inr (9, [.ref aG, .ref aX, .int nx, .int lt, .int sm, .int ex])), (aG, .inl (cG, 32, .inl g)), (aX, .inl (cX, 64, .inl sp)), (aQ, .inr (7, [.ref aM, .ref aS, .int en]))]) ⟨hx, hb, hml, hown, hB⟩ (c_Map_freeBits l D (f_Sta_read ((if p1 = (0 : Int32) then (16 : Int32) else (24 : Int32)) + (6 : Int32)) sp)) yl_Map_freeBits mw_322 hK hN hP hD hS hA [] [] [0, 1, 2, 3, 4, 5] [0, 1, 2, 3, 4, 5] rfl rfl rfl rfl (by decide +kernel) rfl hl.1 rfl (Nat.le_of_ble_eq_true rfl) ⟨Nat.le_of_ble_eq_true rfl, Nat.le_of_ble_eq_true rfl⟩ d_Map_matchingBlock_75 ⟨Nat.le_of_ble_eq_true rfl, Nat.le_of_ble_eq_true rfl⟩ (fun H locs hP hD hS => ?_)
                refine lv_iconst (v := (-1 : Int32)) hx hb d_Map_matchingBlock_78 (by decide) ?_
                refine lv_ixor hx hb d_Map_matchingBlock_79 ?_
                refine lv_iand hx hb d_Map_matchingBlock_80 ?_
                refine lv_if_ne (tgt := 91) hx hb d_Map_matchingBlock_81 (by decide) (fun (h70 : ¬ (((p0 ^^^ (f_Sta_read ((if p1 = (0 : Int32) then (16 : Int32) else (24 : Int32)) + (6 : Int32)) sp)) &&& (-8192 : Int32)) &&& ((f_Map_freeBits (f_Sta_read ((if p1 = (0 : Int32) then (16 : Int32) else (24 : Int32)) + (6 : Int32)) sp)) ^^^ (-1 : Int32))) = (0 : Int32)) => ?_) (fun (h70 : (((p0 ^^^ (f_Sta_read ((if p1 = (0 : Int32) then (16 : Int32) else (24 : Int32)) + (6 : Int32)) sp)) &&& (-8192 : Int32)) &&& ((f_Map_freeBits (f_Sta_read ((if p1 = (0 : Int32) then (16 : Int32) else (24 : Int32)) + (6 : Int32)) sp)) ^^^ (-1 : Int32))) = (0 : Int32)) => ?_)
                · refine lv_iinc (v := (4 : Int32)) (lv' := [(5, .int (4 : Int32)), (6, .int (f_Sta_read ((if p1 = (0 : Int32) then (16 : Int32) else (24 : Int32)) + (6 : Int32)) sp)), (4, .int (if (f_Sta_has (1 : Int32) (16384 : Int32) sp) = (0 : Int32) then (2 : Int32) else (1 : Int32))), (3, .int (if p1 = (0 : Int32) then (16 : Int32) else (24 : Int32))), (0, .ref aQ), (1, .int p0), (2, .int p1)]) hx hb d_Map_matchingBlock_91 hl (k := 1) rfl (by decide) (by decide) rfl (fun ls hl => ?_)
                  refine lv_goto (tgt := 36) hx hb d_Map_matchingBlock_94 (by decide) ?_
                  refine lv_iload hx hb d_Map_matchingBlock_36 (lv_at hl 0 rfl) ?_
                  refine lv_iconst (v := (4 : Int32)) hx hb d_Map_matchingBlock_38 (by decide) ?_
                  refine lv_icmp_ge (tgt := 97) hx hb d_Map_matchingBlock_39 (by decide) (fun h71 => ?_) (fun h71 => ?_)
                  rotate_left
                  · exact absurd (by decide) h71
                  refine lv_iconst (v := (-1 : Int32)) hx hb d_Map_matchingBlock_97 (by decide) ?_
                  have ef : f_Map_matchingBlock p0 p1 sp = (-1 : Int32) := by unfold f_Map_matchingBlock; rw [if_neg h12, if_neg h42, if_neg h44, if_neg h58, if_neg h60, if_neg h66, if_neg h68, if_neg h70]
                  exact k_iret hx hb hr hlocks hK hP hD hS [0, 1, 2, 3, 4, 5] rfl rfl (by rw [ef] <;> rfl) d_Map_matchingBlock_98
                · refine lv_iload_n hx hb d_Map_matchingBlock_84 rfl (lv_at hl 3 rfl) ?_
                  refine lv_iconst (v := (2 : Int32)) hx hb d_Map_matchingBlock_85 (by decide) ?_
                  refine lv_iload hx hb d_Map_matchingBlock_86 (lv_at hl 1 rfl) ?_
                  refine lv_imul hx hb d_Map_matchingBlock_88 ?_
                  refine k_fold (6 : Int32) (by decide) ?_
                  refine lv_iadd hx hb d_Map_matchingBlock_89 ?_
                  have ef : f_Map_matchingBlock p0 p1 sp = ((if p1 = (0 : Int32) then (16 : Int32) else (24 : Int32)) + (6 : Int32)) := by unfold f_Map_matchingBlock; rw [if_neg h12, if_neg h42, if_neg h44, if_neg h58, if_neg h60, if_neg h66, if_neg h68, if_pos h70]
                  exact k_iret hx hb hr hlocks hK hP hD hS [0, 1, 2, 3, 4, 5] rfl rfl (by rw [ef] <;> rfl) d_Map_matchingBlock_90
            · refine lv_iload_n hx hb d_Map_matchingBlock_84 rfl (lv_at hl 3 rfl) ?_
              refine lv_iconst (v := (2 : Int32)) hx hb d_Map_matchingBlock_85 (by decide) ?_
              refine lv_iload hx hb d_Map_matchingBlock_86 (lv_at hl 1 rfl) ?_
              refine lv_imul hx hb d_Map_matchingBlock_88 ?_
              refine k_fold (4 : Int32) (by decide) ?_
              refine lv_iadd hx hb d_Map_matchingBlock_89 ?_
              have ef : f_Map_matchingBlock p0 p1 sp = ((if p1 = (0 : Int32) then (16 : Int32) else (24 : Int32)) + (4 : Int32)) := by unfold f_Map_matchingBlock; rw [if_neg h12, if_neg h42, if_neg h44, if_neg h58, if_neg h60, if_pos h66]
              exact k_iret hx hb hr hlocks hK hP hD hS [0, 1, 2, 3, 4, 5] rfl rfl (by rw [ef] <;> rfl) d_Map_matchingBlock_90
        · refine lv_iload_n hx hb d_Map_matchingBlock_84 rfl (lv_at hl 3 rfl) ?_
          refine lv_iconst (v := (2 : Int32)) hx hb d_Map_matchingBlock_85 (by decide) ?_
          refine lv_iload hx hb d_Map_matchingBlock_86 (lv_at hl 1 rfl) ?_
          refine lv_imul hx hb d_Map_matchingBlock_88 ?_
          refine k_fold (2 : Int32) (by decide) ?_
          refine lv_iadd hx hb d_Map_matchingBlock_89 ?_
          have ef : f_Map_matchingBlock p0 p1 sp = ((if p1 = (0 : Int32) then (16 : Int32) else (24 : Int32)) + (2 : Int32)) := by unfold f_Map_matchingBlock; rw [if_neg h12, if_neg h42, if_neg h44, if_pos h58]
          exact k_iret hx hb hr hlocks hK hP hD hS [0, 1, 2, 3, 4, 5] rfl rfl (by rw [ef] <;> rfl) d_Map_matchingBlock_90
    · refine lv_iload_n hx hb d_Map_matchingBlock_84 rfl (lv_at hl 3 rfl) ?_
      refine lv_iconst (v := (2 : Int32)) hx hb d_Map_matchingBlock_85 (by decide) ?_
      refine lv_iload hx hb d_Map_matchingBlock_86 (lv_at hl 1 rfl) ?_
      refine lv_imul hx hb d_Map_matchingBlock_88 ?_
      refine k_fold (0 : Int32) (by decide) ?_
      refine lv_iadd hx hb d_Map_matchingBlock_89 ?_
      have ef : f_Map_matchingBlock p0 p1 sp = ((if p1 = (0 : Int32) then (16 : Int32) else (24 : Int32)) + (0 : Int32)) := by unfold f_Map_matchingBlock; rw [if_neg h12, if_pos h42]
      exact k_iret hx hb hr hlocks hK hP hD hS [0, 1, 2, 3, 4, 5] rfl rfl (by rw [ef] <;> rfl) d_Map_matchingBlock_90
/-! MappedProcessor$Mapper.throughBlock(III)I -/
theorem d_Map_throughBlock_0 : decode b_Map_throughBlock 0 = .ok (.aload_n 0, 1) := by decide +kernel
theorem d_Map_throughBlock_1 : decode b_Map_throughBlock 1 = .ok (.getfield 15, 3) := by decide +kernel
theorem d_Map_throughBlock_4 : decode b_Map_throughBlock 4 = .ok (.iload_n 3, 1) := by decide +kernel
theorem d_Map_throughBlock_5 : decode b_Map_throughBlock 5 = .ok (.iconst 1, 1) := by decide +kernel
theorem d_Map_throughBlock_6 : decode b_Map_throughBlock 6 = .ok (.iadd, 1) := by decide +kernel
theorem d_Map_throughBlock_7 : decode b_Map_throughBlock 7 = .ok (.invokevirtual 38, 3) := by decide +kernel
theorem d_Map_throughBlock_10 : decode b_Map_throughBlock 10 = .ok (.istore 4, 2) := by decide +kernel
theorem d_Map_throughBlock_12 : decode b_Map_throughBlock 12 = .ok (.iload 4, 2) := by decide +kernel
theorem d_Map_throughBlock_14 : decode b_Map_throughBlock 14 = .ok (.iconst 3, 1) := by decide +kernel
theorem d_Map_throughBlock_15 : decode b_Map_throughBlock 15 = .ok (.iand, 1) := by decide +kernel
theorem d_Map_throughBlock_16 : decode b_Map_throughBlock 16 = .ok (.istore 5, 2) := by decide +kernel
theorem d_Map_throughBlock_18 : decode b_Map_throughBlock 18 = .ok (.iload 5, 2) := by decide +kernel
theorem d_Map_throughBlock_20 : decode b_Map_throughBlock 20 = .ok (.ifCond .eq 14, 3) := by decide +kernel
theorem d_Map_throughBlock_23 : decode b_Map_throughBlock 23 = .ok (.iload_n 2, 1) := by decide +kernel
theorem d_Map_throughBlock_24 : decode b_Map_throughBlock 24 = .ok (.iconst 2, 1) := by decide +kernel
theorem d_Map_throughBlock_25 : decode b_Map_throughBlock 25 = .ok (.if_icmp .ne 12, 3) := by decide +kernel
theorem d_Map_throughBlock_28 : decode b_Map_throughBlock 28 = .ok (.iload 5, 2) := by decide +kernel
theorem d_Map_throughBlock_30 : decode b_Map_throughBlock 30 = .ok (.iconst 2, 1) := by decide +kernel
theorem d_Map_throughBlock_31 : decode b_Map_throughBlock 31 = .ok (.if_icmp .eq 6, 3) := by decide +kernel
theorem d_Map_throughBlock_34 : decode b_Map_throughBlock 34 = .ok (.bipush (-2), 2) := by decide +kernel
theorem d_Map_throughBlock_36 : decode b_Map_throughBlock 36 = .ok (.ireturn, 1) := by decide +kernel
theorem d_Map_throughBlock_37 : decode b_Map_throughBlock 37 = .ok (.sipush (-8192), 3) := by decide +kernel
theorem d_Map_throughBlock_40 : decode b_Map_throughBlock 40 = .ok (.aload_n 0, 1) := by decide +kernel
theorem d_Map_throughBlock_41 : decode b_Map_throughBlock 41 = .ok (.getfield 15, 3) := by decide +kernel
theorem d_Map_throughBlock_44 : decode b_Map_throughBlock 44 = .ok (.iload_n 3, 1) := by decide +kernel
theorem d_Map_throughBlock_45 : decode b_Map_throughBlock 45 = .ok (.invokevirtual 38, 3) := by decide +kernel
theorem d_Map_throughBlock_48 : decode b_Map_throughBlock 48 = .ok (.invokestatic 60, 3) := by decide +kernel
theorem d_Map_throughBlock_51 : decode b_Map_throughBlock 51 = .ok (.iconst (-1), 1) := by decide +kernel
theorem d_Map_throughBlock_52 : decode b_Map_throughBlock 52 = .ok (.ixor, 1) := by decide +kernel
theorem d_Map_throughBlock_53 : decode b_Map_throughBlock 53 = .ok (.iand, 1) := by decide +kernel
theorem d_Map_throughBlock_54 : decode b_Map_throughBlock 54 = .ok (.istore 6, 2) := by decide +kernel
theorem d_Map_throughBlock_56 : decode b_Map_throughBlock 56 = .ok (.iload 4, 2) := by decide +kernel
theorem d_Map_throughBlock_58 : decode b_Map_throughBlock 58 = .ok (.iload 6, 2) := by decide +kernel
theorem d_Map_throughBlock_60 : decode b_Map_throughBlock 60 = .ok (.iand, 1) := by decide +kernel
theorem d_Map_throughBlock_61 : decode b_Map_throughBlock 61 = .ok (.iload_n 1, 1) := by decide +kernel
theorem d_Map_throughBlock_62 : decode b_Map_throughBlock 62 = .ok (.iload 6, 2) := by decide +kernel
theorem d_Map_throughBlock_64 : decode b_Map_throughBlock 64 = .ok (.iconst (-1), 1) := by decide +kernel
theorem d_Map_throughBlock_65 : decode b_Map_throughBlock 65 = .ok (.ixor, 1) := by decide +kernel
theorem d_Map_throughBlock_66 : decode b_Map_throughBlock 66 = .ok (.iand, 1) := by decide +kernel
theorem d_Map_throughBlock_67 : decode b_Map_throughBlock 67 = .ok (.ior, 1) := by decide +kernel
theorem d_Map_throughBlock_68 : decode b_Map_throughBlock 68 = .ok (.ldc 29, 2) := by decide +kernel
theorem d_Map_throughBlock_70 : decode b_Map_throughBlock 70 = .ok (.iand, 1) := by decide +kernel
theorem d_Map_throughBlock_71 : decode b_Map_throughBlock 71 = .ok (.ireturn, 1) := by decide +kernel
def f_Map_throughBlock (p0 : Int32) (p1 : Int32) (p2 : Int32) (sp : Nat → Int32) : Int32 :=
  if ((f_Sta_read (p2 + (1 : Int32)) sp) &&& (3 : Int32)) = (0 : Int32) then
    (-2 : Int32)
  else
    if p1 = (2 : Int32) then
      if ((f_Sta_read (p2 + (1 : Int32)) sp) &&& (3 : Int32)) = (2 : Int32) then
        ((((f_Sta_read (p2 + (1 : Int32)) sp) &&& ((-8192 : Int32) &&& ((f_Map_freeBits (f_Sta_read p2 sp)) ^^^ (-1 : Int32)))) ||| (p0 &&& (((-8192 : Int32) &&& ((f_Map_freeBits (f_Sta_read p2 sp)) ^^^ (-1 : Int32))) ^^^ (-1 : Int32)))) &&& (65535 : Int32))
      else
        (-2 : Int32)
    else
      ((((f_Sta_read (p2 + (1 : Int32)) sp) &&& ((-8192 : Int32) &&& ((f_Map_freeBits (f_Sta_read p2 sp)) ^^^ (-1 : Int32)))) ||| (p0 &&& (((-8192 : Int32) &&& ((f_Map_freeBits (f_Sta_read p2 sp)) ^^^ (-1 : Int32))) ^^^ (-1 : Int32)))) &&& (65535 : Int32))
set_option maxHeartbeats 4000000 in
set_option maxRecDepth 100000 in
theorem c_Map_throughBlock (l : Launch) (D : va_G) (aM aW aS aG aX aQ : Nat) (cW cG cX : ClassId) (w : Nat → Int32) (g : Nat → Int32) (sp : Nat → Int32) (nx : Int32) (lt : Int32) (sm : Int32) (ex : Int32) (en : Int32) (p0 : Int32) (p1 : Int32) (p2 : Int32) : kMi l y_Map_throughBlock b_Map_throughBlock 7 (some .int) 1 21 D kCl [(cW, .int), (cG, .int), (cX, .int)] [.ref aQ, .int p0, .int p1, .int p2] [(aM, .inr (8, [.ref aW])), (aW, .inl (cW, 16384, .inl w)), (aS, .inr (9, [.ref aG, .ref aX, .int nx, .int lt, .int sm, .int ex])), (aG, .inl (cG, 32, .inl g)), (aX, .inl (cX, 64, .inl sp)), (aQ, .inr (7, [.ref aM, .ref aS, .int en]))] (f_Map_throughBlock p0 p1 p2 sp) [(aM, .inr (8, [.ref aW])), (aW, .inl (cW, 16384, .inl w)), (aS, .inr (9, [.ref aG, .ref aX, .int nx, .int lt, .int sm, .int ex])), (aG, .inl (cG, 32, .inl g)), (aX, .inl (cX, 64, .inl sp)), (aQ, .inr (7, [.ref aM, .ref aS, .int en]))] := by
  refine k_entry (Qc := fun A => kQi D kCl [(cW, .int), (cG, .int), (cX, .int)] (f_Map_throughBlock p0 p1 p2 sp) [(aM, .inr (8, [.ref aW])), (aW, .inl (cW, 16384, .inl w)), (aS, .inr (9, [.ref aG, .ref aX, .int nx, .int lt, .int sm, .int ex])), (aG, .inl (cG, 32, .inl g)), (aX, .inl (cX, 64, .inl sp)), (aQ, .inr (7, [.ref aM, .ref aS, .int en]))] A) (lv := [(0, .ref aQ), (1, .int p0), (2, .int p1), (3, .int p2)]) (by decide) (Nat.le_of_ble_eq_true rfl) rfl ?_
  intro p e s m below meth c A ls hx hb hr hml hB hown hlocks hin hA hK hN hP hD hS hl
  have hown : s.vm.findClass "MappedProcessor$Mapper" = some m.cls := hown
  refine lv_aload_n hx hb d_Map_throughBlock_0 rfl (lv_at hl 0 rfl) ?_
  refine va_get (D := D) (ci := 7) (v := .ref aS) (C := "MappedProcessor$Mapper") (T := T_Map) (N := 3) hx hb hB iw_Map hown hK hP 5 rfl rfl 1 (by decide) (hB _ mw_65) (fun _ h9 => h9) rfl d_Map_throughBlock_1 ?_
  refine lv_iload_n hx hb d_Map_throughBlock_4 rfl (lv_at hl 3 rfl) ?_
  refine lv_iconst (v := (1 : Int32)) hx hb d_Map_throughBlock_5 (by decide) ?_
  refine lv_iadd hx hb d_Map_throughBlock_6 ?_
  refine k_cVi (As := [.int (p2 + (1 : Int32))]) (rest := []) (wr := [(aM, .inr (8, [.ref aW])), (aW, .inl (cW, 16384, .inl w)), (aQ, .inr (7, [.ref aM, .ref aS, .int en]))]) (wj := [(aM, .inr (8, [.ref aW])), (aW, .inl (cW, 16384, .inl w)), (aS, .inr (9, [.ref aG, .ref aX, .int nx, .int lt, .int sm, .int ex])), (aG, .inl (cG, 32, .inl g)), (aX, .inl (cX, 64, .inl sp)), (aQ, .inr (7, [.ref aM, .ref aS, .int en]))]) ⟨hx, hb, hml, hown, hB⟩ (c_Sta_read l D aS aG aX cG cX g sp nx lt sm ex (p2 + (1 : Int32))) yl_Sta_read mw_321 hK hN hP hD hS hA [1, 2] [2, 3, 4] [0, 1, 5] [0, 1, 3, 4, 5, 2] rfl rfl rfl rfl (by decide +kernel) 0 rfl rfl rfl rfl hl.1 rfl (Nat.le_of_ble_eq_true rfl) ⟨Nat.le_of_ble_eq_true rfl, Nat.le_of_ble_eq_true rfl⟩ d_Map_throughBlock_7 ⟨Nat.le_of_ble_eq_true rfl, Nat.le_of_ble_eq_true rfl⟩ (fun H locs hP hD hS => ?_)
  refine lv_istore (lv' := [(4, .int (f_Sta_read (p2 + (1 : Int32)) sp)), (0, .ref aQ), (1, .int p0), (2, .int p1), (3, .int p2)]) hx hb d_Map_throughBlock_10 hl (by decide) rfl (fun ls hl => ?_)
  refine lv_iload hx hb d_Map_throughBlock_12 (lv_at hl 0 rfl) ?_
  refine lv_iconst (v := (3 : Int32)) hx hb d_Map_throughBlock_14 (by decide) ?_
  refine lv_iand hx hb d_Map_throughBlock_15 ?_
  refine lv_istore (lv' := [(5, .int ((f_Sta_read (p2 + (1 : Int32)) sp) &&& (3 : Int32))), (4, .int (f_Sta_read (p2 + (1 : Int32)) sp)), (0, .ref aQ), (1, .int p0), (2, .int p1), (3, .int p2)]) hx hb d_Map_throughBlock_16 hl (by decide) rfl (fun ls hl => ?_)
  refine lv_iload hx hb d_Map_throughBlock_18 (lv_at hl 0 rfl) ?_
  refine lv_if_eq (tgt := 34) hx hb d_Map_throughBlock_20 (by decide) (fun (h1 : ((f_Sta_read (p2 + (1 : Int32)) sp) &&& (3 : Int32)) = (0 : Int32)) => ?_) (fun (h1 : ¬ ((f_Sta_read (p2 + (1 : Int32)) sp) &&& (3 : Int32)) = (0 : Int32)) => ?_)
  · refine lv_bipush (v := (-2 : Int32)) hx hb d_Map_throughBlock_34 (by decide) ?_
    have ef : f_Map_throughBlock p0 p1 p2 sp = (-2 : Int32) := by unfold f_Map_throughBlock; rw [if_pos h1]
    exact k_iret hx hb hr hlocks hK hP hD hS [0, 1, 2, 3, 4, 5] rfl rfl (by rw [ef] <;> rfl) d_Map_throughBlock_36
  · refine lv_iload_n hx hb d_Map_throughBlock_23 rfl (lv_at hl 4 rfl) ?_
    refine lv_iconst (v := (2 : Int32)) hx hb d_Map_throughBlock_24 (by decide) ?_
    refine lv_icmp_ne (tgt := 37) hx hb d_Map_throughBlock_25 (by decide) (fun (h2 : ¬ p1 = (2 : Int32)) => ?_) (fun (h2 : p1 = (2 : Int32)) => ?_)
    · refine lv_sipush (v := (-8192 : Int32)) hx hb d_Map_throughBlock_37 (by decide) ?_
      refine lv_aload_n hx hb d_Map_throughBlock_40 rfl (lv_at hl 2 rfl) ?_
      refine va_get (D := D) (ci := 7) (v := .ref aS) (C := "MappedProcessor$Mapper") (T := T_Map) (N := 3) hx hb hB iw_Map hown hK hP 5 rfl rfl 1 (by decide) (hB _ mw_65) (fun _ h9 => h9) rfl d_Map_throughBlock_41 ?_
      refine lv_iload_n hx hb d_Map_throughBlock_44 rfl (lv_at hl 5 rfl) ?_
      refine k_cVi (As := [.int p2]) (rest := [.int (-8192 : Int32)]) (wr := [(aM, .inr (8, [.ref aW])), (aW, .inl (cW, 16384, .inl w)), (aQ, .inr (7, [.ref aM, .ref aS, .int en]))]) (wj := [(aM, .inr (8, [.ref aW])), (aW, .inl (cW, 16384, .inl w)), (aS, .inr (9, [.ref aG, .ref aX, .int nx, .int lt, .int sm, .int ex])), (aG, .inl (cG, 32, .inl g)), (aX, .inl (cX, 64, .inl sp)), (aQ, .inr (7, [.ref aM, .ref aS, .int en]))]) ⟨hx, hb, hml, hown, hB⟩ (c_Sta_read l D aS aG aX cG cX g sp nx lt sm ex p2) yl_Sta_read mw_321 hK hN hP hD hS hA [1, 2] [2, 3, 4] [0, 1, 5] [0, 1, 3, 4, 5, 2] rfl rfl rfl rfl (by decide +kernel) 0 rfl rfl rfl rfl hl.1 rfl (Nat.le_of_ble_eq_true rfl) ⟨Nat.le_of_ble_eq_true rfl, Nat.le_of_ble_eq_true rfl⟩ d_Map_throughBlock_45 ⟨Nat.le_of_ble_eq_true rfl, Nat.le_of_ble_eq_true rfl⟩ (fun H locs hP hD hS => ?_)
      refine k_cSi (As := [.int (f_Sta_read p2 sp)]) (rest := [.int (-8192 : Int32)]) (wr := [(aM, .inr (8, [.ref aW])), (aW, .inl (cW, 16384, .inl w)), (aS, .inr (9, [.ref aG, .ref aX, .int nx, .int lt, .int sm, .int ex])), (aG, .inl (cG, 32, .inl g)), (aX, .inl (cX, 64, .inl sp)), (aQ, .inr (7, [.ref aM, .ref aS, .int en]))]) (wj := [(aM, .inr (8, [.ref aW])), (aW, .inl (cW, 16384, .inl w)), (aS, .inr (9, [.ref aG, .ref aX, .int nx, .int lt, .int sm, .int ex])), (aG, .inl (cG, 32, .inl g)), (aX, .inl (cX, 64, .inl sp)), (aQ, .inr (7, [.ref aM, .ref aS, .int en]))]) ⟨hx, hb, hml, hown, hB⟩ (c_Map_freeBits l D (f_Sta_read p2 sp)) yl_Map_freeBits mw_322 hK hN hP hD hS hA [] [] [0, 1, 2, 3, 4, 5] [0, 1, 2, 3, 4, 5] rfl rfl rfl rfl (by decide +kernel) rfl hl.1 rfl (Nat.le_of_ble_eq_true rfl) ⟨Nat.le_of_ble_eq_true rfl, Nat.le_of_ble_eq_true rfl⟩ d_Map_throughBlock_48 ⟨Nat.le_of_ble_eq_true rfl, Nat.le_of_ble_eq_true rfl⟩ (fun H locs hP hD hS => ?_)
      refine lv_iconst (v := (-1 : Int32)) hx hb d_Map_throughBlock_51 (by decide) ?_
      refine lv_ixor hx hb d_Map_throughBlock_52 ?_
      refine lv_iand hx hb d_Map_throughBlock_53 ?_
      refine lv_istore (lv' := [(6, .int ((-8192 : Int32) &&& ((f_Map_freeBits (f_Sta_read p2 sp)) ^^^ (-1 : Int32)))), (5, .int ((f_Sta_read (p2 + (1 : Int32)) sp) &&& (3 : Int32))), (4, .int (f_Sta_read (p2 + (1 : Int32)) sp)), (0, .ref aQ), (1, .int p0), (2, .int p1), (3, .int p2)]) hx hb d_Map_throughBlock_54 hl (by decide) rfl (fun ls hl => ?_)
      refine lv_iload hx hb d_Map_throughBlock_56 (lv_at hl 2 rfl) ?_
      refine lv_iload hx hb d_Map_throughBlock_58 (lv_at hl 0 rfl) ?_
      refine lv_iand hx hb d_Map_throughBlock_60 ?_
      refine lv_iload_n hx hb d_Map_throughBlock_61 rfl (lv_at hl 4 rfl) ?_
      refine lv_iload hx hb d_Map_throughBlock_62 (lv_at hl 0 rfl) ?_
      refine lv_iconst (v := (-1 : Int32)) hx hb d_Map_throughBlock_64 (by decide) ?_
      refine lv_ixor hx hb d_Map_throughBlock_65 ?_
      refine lv_iand hx hb d_Map_throughBlock_66 ?_
      refine lv_ior hx hb d_Map_throughBlock_67 ?_
      refine lv_ldc (v := (65535 : Int32)) hx hb hown (hB _ mw_316) d_Map_throughBlock_68 ?_
      refine lv_iand hx hb d_Map_throughBlock_70 ?_
      have ef : f_Map_throughBlock p0 p1 p2 sp = ((((f_Sta_read (p2 + (1 : Int32)) sp) &&& ((-8192 : Int32) &&& ((f_Map_freeBits (f_Sta_read p2 sp)) ^^^ (-1 : Int32)))) ||| (p0 &&& (((-8192 : Int32) &&& ((f_Map_freeBits (f_Sta_read p2 sp)) ^^^ (-1 : Int32))) ^^^ (-1 : Int32)))) &&& (65535 : Int32)) := by unfold f_Map_throughBlock; rw [if_neg h1, if_neg h2]
      exact k_iret hx hb hr hlocks hK hP hD hS [0, 1, 2, 3, 4, 5] rfl rfl (by rw [ef] <;> rfl) d_Map_throughBlock_71
    · refine lv_iload hx hb d_Map_throughBlock_28 (lv_at hl 0 rfl) ?_
      refine lv_iconst (v := (2 : Int32)) hx hb d_Map_throughBlock_30 (by decide) ?_
      refine lv_icmp_eq (tgt := 37) hx hb d_Map_throughBlock_31 (by decide) (fun (h3 : ((f_Sta_read (p2 + (1 : Int32)) sp) &&& (3 : Int32)) = (2 : Int32)) => ?_) (fun (h3 : ¬ ((f_Sta_read (p2 + (1 : Int32)) sp) &&& (3 : Int32)) = (2 : Int32)) => ?_)
      · refine lv_sipush (v := (-8192 : Int32)) hx hb d_Map_throughBlock_37 (by decide) ?_
        refine lv_aload_n hx hb d_Map_throughBlock_40 rfl (lv_at hl 2 rfl) ?_
        refine va_get (D := D) (ci := 7) (v := .ref aS) (C := "MappedProcessor$Mapper") (T := T_Map) (N := 3) hx hb hB iw_Map hown hK hP 5 rfl rfl 1 (by decide) (hB _ mw_65) (fun _ h9 => h9) rfl d_Map_throughBlock_41 ?_
        refine lv_iload_n hx hb d_Map_throughBlock_44 rfl (lv_at hl 5 rfl) ?_
        refine k_cVi (As := [.int p2]) (rest := [.int (-8192 : Int32)]) (wr := [(aM, .inr (8, [.ref aW])), (aW, .inl (cW, 16384, .inl w)), (aQ, .inr (7, [.ref aM, .ref aS, .int en]))]) (wj := [(aM, .inr (8, [.ref aW])), (aW, .inl (cW, 16384, .inl w)), (aS, .inr (9, [.ref aG, .ref aX, .int nx, .int lt, .int sm, .int ex])), (aG, .inl (cG, 32, .inl g)), (aX, .inl (cX, 64, .inl sp)), (aQ, .inr (7, [.ref aM, .ref aS, .int en]))]) ⟨hx, hb, hml, hown, hB⟩ (c_Sta_read l D aS aG aX cG cX g sp nx lt sm ex p2) yl_Sta_read mw_321 hK hN hP hD hS hA [1, 2] [2, 3, 4] [0, 1, 5] [0, 1, 3, 4, 5, 2] rfl rfl rfl rfl (by decide +kernel) 0 rfl rfl rfl rfl hl.1 rfl (Nat.le_of_ble_eq_true rfl) ⟨Nat.le_of_ble_eq_true rfl, Nat.le_of_ble_eq_true rfl⟩ d_Map_throughBlock_45 ⟨Nat.le_of_ble_eq_true rfl, Nat.le_of_ble_eq_true rfl⟩ (fun H locs hP hD hS => ?_)
        refine k_cSi (As := [.int (f_Sta_read p2 sp)]) (rest := [.int (-8192 : Int32)]) (wr := [(aM, .inr (8, [.ref aW])), (aW, .inl (cW, 16384, .inl w)), (aS, .inr (9, [.ref aG, .ref aX, .int nx, .int lt, .int sm, .int ex])), (aG, .inl (cG, 32, .inl g)), (aX, .inl (cX, 64, .inl sp)), (aQ, .inr (7, [.ref aM, .ref aS, .int en]))]) (wj := [(aM, .inr (8, [.ref aW])), (aW, .inl (cW, 16384, .inl w)), (aS, .inr (9, [.ref aG, .ref aX, .int nx, .int lt, .int sm, .int ex])), (aG, .inl (cG, 32, .inl g)), (aX, .inl (cX, 64, .inl sp)), (aQ, .inr (7, [.ref aM, .ref aS, .int en]))]) ⟨hx, hb, hml, hown, hB⟩ (c_Map_freeBits l D (f_Sta_read p2 sp)) yl_Map_freeBits mw_322 hK hN hP hD hS hA [] [] [0, 1, 2, 3, 4, 5] [0, 1, 2, 3, 4, 5] rfl rfl rfl rfl (by decide +kernel) rfl hl.1 rfl (Nat.le_of_ble_eq_true rfl) ⟨Nat.le_of_ble_eq_true rfl, Nat.le_of_ble_eq_true rfl⟩ d_Map_throughBlock_48 ⟨Nat.le_of_ble_eq_true rfl, Nat.le_of_ble_eq_true rfl⟩ (fun H locs hP hD hS => ?_)
        refine lv_iconst (v := (-1 : Int32)) hx hb d_Map_throughBlock_51 (by decide) ?_
        refine lv_ixor hx hb d_Map_throughBlock_52 ?_
        refine lv_iand hx hb d_Map_throughBlock_53 ?_
        refine lv_istore (lv' := [(6, .int ((-8192 : Int32) &&& ((f_Map_freeBits (f_Sta_read p2 sp)) ^^^ (-1 : Int32)))), (5, .int ((f_Sta_read (p2 + (1 : Int32)) sp) &&& (3 : Int32))), (4, .int (f_Sta_read (p2 + (1 : Int32)) sp)), (0, .ref aQ), (1, .int p0), (2, .int p1), (3, .int p2)]) hx hb d_Map_throughBlock_54 hl (by decide) rfl (fun ls hl => ?_)
        refine lv_iload hx hb d_Map_throughBlock_56 (lv_at hl 2 rfl) ?_
        refine lv_iload hx hb d_Map_throughBlock_58 (lv_at hl 0 rfl) ?_
        refine lv_iand hx hb d_Map_throughBlock_60 ?_
        refine lv_iload_n hx hb d_Map_throughBlock_61 rfl (lv_at hl 4 rfl) ?_
        refine lv_iload hx hb d_Map_throughBlock_62 (lv_at hl 0 rfl) ?_
        refine lv_iconst (v := (-1 : Int32)) hx hb d_Map_throughBlock_64 (by decide) ?_
        refine lv_ixor hx hb d_Map_throughBlock_65 ?_
        refine lv_iand hx hb d_Map_throughBlock_66 ?_
        refine lv_ior hx hb d_Map_throughBlock_67 ?_
        refine lv_ldc (v := (65535 : Int32)) hx hb hown (hB _ mw_316) d_Map_throughBlock_68 ?_
        refine lv_iand hx hb d_Map_throughBlock_70 ?_
        have ef : f_Map_throughBlock p0 p1 p2 sp = ((((f_Sta_read (p2 + (1 : Int32)) sp) &&& ((-8192 : Int32) &&& ((f_Map_freeBits (f_Sta_read p2 sp)) ^^^ (-1 : Int32)))) ||| (p0 &&& (((-8192 : Int32) &&& ((f_Map_freeBits (f_Sta_read p2 sp)) ^^^ (-1 : Int32))) ^^^ (-1 : Int32)))) &&& (65535 : Int32)) := by unfold f_Map_throughBlock; rw [if_neg h1, if_pos h2, if_pos h3]
        exact k_iret hx hb hr hlocks hK hP hD hS [0, 1, 2, 3, 4, 5] rfl rfl (by rw [ef] <;> rfl) d_Map_throughBlock_71
      · refine lv_bipush (v := (-2 : Int32)) hx hb d_Map_throughBlock_34 (by decide) ?_
        have ef : f_Map_throughBlock p0 p1 p2 sp = (-2 : Int32) := by unfold f_Map_throughBlock; rw [if_neg h1, if_pos h2, if_neg h3]
        exact k_iret hx hb hr hlocks hK hP hD hS [0, 1, 2, 3, 4, 5] rfl rfl (by rw [ef] <;> rfl) d_Map_throughBlock_36
/-! MappedProcessor$Mapper.findEntry(II)I -/
theorem d_Map_findEntry_0 : decode b_Map_findEntry 0 = .ok (.iload_n 1, 1) := by decide +kernel
theorem d_Map_findEntry_1 : decode b_Map_findEntry 1 = .ok (.ldc 63, 2) := by decide +kernel
theorem d_Map_findEntry_3 : decode b_Map_findEntry 3 = .ok (.iand, 1) := by decide +kernel
theorem d_Map_findEntry_4 : decode b_Map_findEntry 4 = .ok (.iload_n 2, 1) := by decide +kernel
theorem d_Map_findEntry_5 : decode b_Map_findEntry 5 = .ok (.ixor, 1) := by decide +kernel
theorem d_Map_findEntry_6 : decode b_Map_findEntry 6 = .ok (.istore_n 3, 1) := by decide +kernel
theorem d_Map_findEntry_7 : decode b_Map_findEntry 7 = .ok (.ldc 64, 2) := by decide +kernel
theorem d_Map_findEntry_9 : decode b_Map_findEntry 9 = .ok (.sipush 128, 3) := by decide +kernel
theorem d_Map_findEntry_12 : decode b_Map_findEntry 12 = .ok (.iload_n 1, 1) := by decide +kernel
theorem d_Map_findEntry_13 : decode b_Map_findEntry 13 = .ok (.imul, 1) := by decide +kernel
theorem d_Map_findEntry_14 : decode b_Map_findEntry 14 = .ok (.iadd, 1) := by decide +kernel
theorem d_Map_findEntry_15 : decode b_Map_findEntry 15 = .ok (.iload_n 2, 1) := by decide +kernel
theorem d_Map_findEntry_16 : decode b_Map_findEntry 16 = .ok (.bipush 10, 2) := by decide +kernel
theorem d_Map_findEntry_18 : decode b_Map_findEntry 18 = .ok (.iushr, 1) := by decide +kernel
theorem d_Map_findEntry_19 : decode b_Map_findEntry 19 = .ok (.iadd, 1) := by decide +kernel
theorem d_Map_findEntry_20 : decode b_Map_findEntry 20 = .ok (.istore 4, 2) := by decide +kernel
theorem d_Map_findEntry_22 : decode b_Map_findEntry 22 = .ok (.aload_n 0, 1) := by decide +kernel
theorem d_Map_findEntry_23 : decode b_Map_findEntry 23 = .ok (.getfield 15, 3) := by decide +kernel
theorem d_Map_findEntry_26 : decode b_Map_findEntry 26 = .ok (.bipush 10, 2) := by decide +kernel
theorem d_Map_findEntry_28 : decode b_Map_findEntry 28 = .ok (.invokevirtual 38, 3) := by decide +kernel
theorem d_Map_findEntry_31 : decode b_Map_findEntry 31 = .ok (.istore 5, 2) := by decide +kernel
theorem d_Map_findEntry_33 : decode b_Map_findEntry 33 = .ok (.iconst 0, 1) := by decide +kernel
theorem d_Map_findEntry_34 : decode b_Map_findEntry 34 = .ok (.istore 6, 2) := by decide +kernel
theorem d_Map_findEntry_36 : decode b_Map_findEntry 36 = .ok (.iload 6, 2) := by decide +kernel
theorem d_Map_findEntry_38 : decode b_Map_findEntry 38 = .ok (.bipush 16, 2) := by decide +kernel
theorem d_Map_findEntry_40 : decode b_Map_findEntry 40 = .ok (.if_icmp .ge 91, 3) := by decide +kernel
theorem d_Map_findEntry_43 : decode b_Map_findEntry 43 = .ok (.iload 6, 2) := by decide +kernel
theorem d_Map_findEntry_45 : decode b_Map_findEntry 45 = .ok (.bipush 8, 2) := by decide +kernel
theorem d_Map_findEntry_47 : decode b_Map_findEntry 47 = .ok (.if_icmp .ge 7, 3) := by decide +kernel
theorem d_Map_findEntry_50 : decode b_Map_findEntry 50 = .ok (.iload_n 3, 1) := by decide +kernel
theorem d_Map_findEntry_51 : decode b_Map_findEntry 51 = .ok (.goto 6, 3) := by decide +kernel
theorem d_Map_findEntry_54 : decode b_Map_findEntry 54 = .ok (.iload_n 3, 1) := by decide +kernel
theorem d_Map_findEntry_55 : decode b_Map_findEntry 55 = .ok (.iconst (-1), 1) := by decide +kernel
theorem d_Map_findEntry_56 : decode b_Map_findEntry 56 = .ok (.ixor, 1) := by decide +kernel
theorem d_Map_findEntry_57 : decode b_Map_findEntry 57 = .ok (.istore 7, 2) := by decide +kernel
theorem d_Map_findEntry_59 : decode b_Map_findEntry 59 = .ok (.iload 6, 2) := by decide +kernel
theorem d_Map_findEntry_61 : decode b_Map_findEntry 61 = .ok (.bipush 8, 2) := by decide +kernel
theorem d_Map_findEntry_63 : decode b_Map_findEntry 63 = .ok (.if_icmp .ge 8, 3) := by decide +kernel
theorem d_Map_findEntry_66 : decode b_Map_findEntry 66 = .ok (.iload 4, 2) := by decide +kernel
theorem d_Map_findEntry_68 : decode b_Map_findEntry 68 = .ok (.goto 8, 3) := by decide +kernel
theorem d_Map_findEntry_71 : decode b_Map_findEntry 71 = .ok (.iload 4, 2) := by decide +kernel
theorem d_Map_findEntry_73 : decode b_Map_findEntry 73 = .ok (.bipush 64, 2) := by decide +kernel
theorem d_Map_findEntry_75 : decode b_Map_findEntry 75 = .ok (.iadd, 1) := by decide +kernel
theorem d_Map_findEntry_76 : decode b_Map_findEntry 76 = .ok (.istore 8, 2) := by decide +kernel
theorem d_Map_findEntry_78 : decode b_Map_findEntry 78 = .ok (.iload 5, 2) := by decide +kernel
theorem d_Map_findEntry_80 : decode b_Map_findEntry 80 = .ok (.ldc 65, 2) := by decide +kernel
theorem d_Map_findEntry_82 : decode b_Map_findEntry 82 = .ok (.iand, 1) := by decide +kernel
theorem d_Map_findEntry_83 : decode b_Map_findEntry 83 = .ok (.bipush 64, 2) := by decide +kernel
theorem d_Map_findEntry_85 : decode b_Map_findEntry 85 = .ok (.iload 7, 2) := by decide +kernel
theorem d_Map_findEntry_87 : decode b_Map_findEntry 87 = .ok (.iload 5, 2) := by decide +kernel
theorem d_Map_findEntry_89 : decode b_Map_findEntry 89 = .ok (.iand, 1) := by decide +kernel
theorem d_Map_findEntry_90 : decode b_Map_findEntry 90 = .ok (.bipush 15, 2) := by decide +kernel
theorem d_Map_findEntry_92 : decode b_Map_findEntry 92 = .ok (.iand, 1) := by decide +kernel
theorem d_Map_findEntry_93 : decode b_Map_findEntry 93 = .ok (.imul, 1) := by decide +kernel
theorem d_Map_findEntry_94 : decode b_Map_findEntry 94 = .ok (.iadd, 1) := by decide +kernel
theorem d_Map_findEntry_95 : decode b_Map_findEntry 95 = .ok (.bipush 8, 2) := by decide +kernel
theorem d_Map_findEntry_97 : decode b_Map_findEntry 97 = .ok (.iload 6, 2) := by decide +kernel
theorem d_Map_findEntry_99 : decode b_Map_findEntry 99 = .ok (.bipush 7, 2) := by decide +kernel
theorem d_Map_findEntry_101 : decode b_Map_findEntry 101 = .ok (.iand, 1) := by decide +kernel
theorem d_Map_findEntry_102 : decode b_Map_findEntry 102 = .ok (.imul, 1) := by decide +kernel
theorem d_Map_findEntry_103 : decode b_Map_findEntry 103 = .ok (.iadd, 1) := by decide +kernel
theorem d_Map_findEntry_104 : decode b_Map_findEntry 104 = .ok (.istore 9, 2) := by decide +kernel
theorem d_Map_findEntry_106 : decode b_Map_findEntry 106 = .ok (.aload_n 0, 1) := by decide +kernel
theorem d_Map_findEntry_107 : decode b_Map_findEntry 107 = .ok (.getfield 9, 3) := by decide +kernel
theorem d_Map_findEntry_110 : decode b_Map_findEntry 110 = .ok (.iload 9, 2) := by decide +kernel
theorem d_Map_findEntry_112 : decode b_Map_findEntry 112 = .ok (.invokevirtual 51, 3) := by decide +kernel
theorem d_Map_findEntry_115 : decode b_Map_findEntry 115 = .ok (.iload 8, 2) := by decide +kernel
theorem d_Map_findEntry_117 : decode b_Map_findEntry 117 = .ok (.if_icmp .ne 8, 3) := by decide +kernel
theorem d_Map_findEntry_120 : decode b_Map_findEntry 120 = .ok (.iload 9, 2) := by decide +kernel
theorem d_Map_findEntry_122 : decode b_Map_findEntry 122 = .ok (.iconst 4, 1) := by decide +kernel
theorem d_Map_findEntry_123 : decode b_Map_findEntry 123 = .ok (.iadd, 1) := by decide +kernel
theorem d_Map_findEntry_124 : decode b_Map_findEntry 124 = .ok (.ireturn, 1) := by decide +kernel
theorem d_Map_findEntry_125 : decode b_Map_findEntry 125 = .ok (.iinc 6 1, 3) := by decide +kernel
theorem d_Map_findEntry_128 : decode b_Map_findEntry 128 = .ok (.goto (-92), 3) := by decide +kernel
theorem d_Map_findEntry_131 : decode b_Map_findEntry 131 = .ok (.iconst (-1), 1) := by decide +kernel
theorem d_Map_findEntry_132 : decode b_Map_findEntry 132 = .ok (.ireturn, 1) := by decide +kernel
def f_Map_findEntry (p0 : Int32) (p1 : Int32) (w : Nat → Int32) (sp : Nat → Int32) : Int32 :=
  if (f_Mem_at ((((f_Sta_read (10 : Int32) sp) &&& (64512 : Int32)) + ((64 : Int32) * ((((p0 &&& (524287 : Int32)) ^^^ p1) &&& (f_Sta_read (10 : Int32) sp)) &&& (15 : Int32)))) + (0 : Int32)) w) = (((-2147483648 : Int32) + ((128 : Int32) * p0)) + (ush p1 (10 : Int32))) then
    (((((f_Sta_read (10 : Int32) sp) &&& (64512 : Int32)) + ((64 : Int32) * ((((p0 &&& (524287 : Int32)) ^^^ p1) &&& (f_Sta_read (10 : Int32) sp)) &&& (15 : Int32)))) + (0 : Int32)) + (4 : Int32))
  else
    if (f_Mem_at ((((f_Sta_read (10 : Int32) sp) &&& (64512 : Int32)) + ((64 : Int32) * ((((p0 &&& (524287 : Int32)) ^^^ p1) &&& (f_Sta_read (10 : Int32) sp)) &&& (15 : Int32)))) + (8 : Int32)) w) = (((-2147483648 : Int32) + ((128 : Int32) * p0)) + (ush p1 (10 : Int32))) then
      (((((f_Sta_read (10 : Int32) sp) &&& (64512 : Int32)) + ((64 : Int32) * ((((p0 &&& (524287 : Int32)) ^^^ p1) &&& (f_Sta_read (10 : Int32) sp)) &&& (15 : Int32)))) + (8 : Int32)) + (4 : Int32))
    else
      if (f_Mem_at ((((f_Sta_read (10 : Int32) sp) &&& (64512 : Int32)) + ((64 : Int32) * ((((p0 &&& (524287 : Int32)) ^^^ p1) &&& (f_Sta_read (10 : Int32) sp)) &&& (15 : Int32)))) + (16 : Int32)) w) = (((-2147483648 : Int32) + ((128 : Int32) * p0)) + (ush p1 (10 : Int32))) then
        (((((f_Sta_read (10 : Int32) sp) &&& (64512 : Int32)) + ((64 : Int32) * ((((p0 &&& (524287 : Int32)) ^^^ p1) &&& (f_Sta_read (10 : Int32) sp)) &&& (15 : Int32)))) + (16 : Int32)) + (4 : Int32))
      else
        if (f_Mem_at ((((f_Sta_read (10 : Int32) sp) &&& (64512 : Int32)) + ((64 : Int32) * ((((p0 &&& (524287 : Int32)) ^^^ p1) &&& (f_Sta_read (10 : Int32) sp)) &&& (15 : Int32)))) + (24 : Int32)) w) = (((-2147483648 : Int32) + ((128 : Int32) * p0)) + (ush p1 (10 : Int32))) then
          (((((f_Sta_read (10 : Int32) sp) &&& (64512 : Int32)) + ((64 : Int32) * ((((p0 &&& (524287 : Int32)) ^^^ p1) &&& (f_Sta_read (10 : Int32) sp)) &&& (15 : Int32)))) + (24 : Int32)) + (4 : Int32))
        else
          if (f_Mem_at ((((f_Sta_read (10 : Int32) sp) &&& (64512 : Int32)) + ((64 : Int32) * ((((p0 &&& (524287 : Int32)) ^^^ p1) &&& (f_Sta_read (10 : Int32) sp)) &&& (15 : Int32)))) + (32 : Int32)) w) = (((-2147483648 : Int32) + ((128 : Int32) * p0)) + (ush p1 (10 : Int32))) then
            (((((f_Sta_read (10 : Int32) sp) &&& (64512 : Int32)) + ((64 : Int32) * ((((p0 &&& (524287 : Int32)) ^^^ p1) &&& (f_Sta_read (10 : Int32) sp)) &&& (15 : Int32)))) + (32 : Int32)) + (4 : Int32))
          else
            if (f_Mem_at ((((f_Sta_read (10 : Int32) sp) &&& (64512 : Int32)) + ((64 : Int32) * ((((p0 &&& (524287 : Int32)) ^^^ p1) &&& (f_Sta_read (10 : Int32) sp)) &&& (15 : Int32)))) + (40 : Int32)) w) = (((-2147483648 : Int32) + ((128 : Int32) * p0)) + (ush p1 (10 : Int32))) then
              (((((f_Sta_read (10 : Int32) sp) &&& (64512 : Int32)) + ((64 : Int32) * ((((p0 &&& (524287 : Int32)) ^^^ p1) &&& (f_Sta_read (10 : Int32) sp)) &&& (15 : Int32)))) + (40 : Int32)) + (4 : Int32))
            else
              if (f_Mem_at ((((f_Sta_read (10 : Int32) sp) &&& (64512 : Int32)) + ((64 : Int32) * ((((p0 &&& (524287 : Int32)) ^^^ p1) &&& (f_Sta_read (10 : Int32) sp)) &&& (15 : Int32)))) + (48 : Int32)) w) = (((-2147483648 : Int32) + ((128 : Int32) * p0)) + (ush p1 (10 : Int32))) then
                (((((f_Sta_read (10 : Int32) sp) &&& (64512 : Int32)) + ((64 : Int32) * ((((p0 &&& (524287 : Int32)) ^^^ p1) &&& (f_Sta_read (10 : Int32) sp)) &&& (15 : Int32)))) + (48 : Int32)) + (4 : Int32))
              else
                if (f_Mem_at ((((f_Sta_read (10 : Int32) sp) &&& (64512 : Int32)) + ((64 : Int32) * ((((p0 &&& (524287 : Int32)) ^^^ p1) &&& (f_Sta_read (10 : Int32) sp)) &&& (15 : Int32)))) + (56 : Int32)) w) = (((-2147483648 : Int32) + ((128 : Int32) * p0)) + (ush p1 (10 : Int32))) then
                  (((((f_Sta_read (10 : Int32) sp) &&& (64512 : Int32)) + ((64 : Int32) * ((((p0 &&& (524287 : Int32)) ^^^ p1) &&& (f_Sta_read (10 : Int32) sp)) &&& (15 : Int32)))) + (56 : Int32)) + (4 : Int32))
                else
                  if (f_Mem_at ((((f_Sta_read (10 : Int32) sp) &&& (64512 : Int32)) + ((64 : Int32) * (((((p0 &&& (524287 : Int32)) ^^^ p1) ^^^ (-1 : Int32)) &&& (f_Sta_read (10 : Int32) sp)) &&& (15 : Int32)))) + (0 : Int32)) w) = ((((-2147483648 : Int32) + ((128 : Int32) * p0)) + (ush p1 (10 : Int32))) + (64 : Int32)) then
                    (((((f_Sta_read (10 : Int32) sp) &&& (64512 : Int32)) + ((64 : Int32) * (((((p0 &&& (524287 : Int32)) ^^^ p1) ^^^ (-1 : Int32)) &&& (f_Sta_read (10 : Int32) sp)) &&& (15 : Int32)))) + (0 : Int32)) + (4 : Int32))
                  else
                    if (f_Mem_at ((((f_Sta_read (10 : Int32) sp) &&& (64512 : Int32)) + ((64 : Int32) * (((((p0 &&& (524287 : Int32)) ^^^ p1) ^^^ (-1 : Int32)) &&& (f_Sta_read (10 : Int32) sp)) &&& (15 : Int32)))) + (8 : Int32)) w) = ((((-2147483648 : Int32) + ((128 : Int32) * p0)) + (ush p1 (10 : Int32))) + (64 : Int32)) then
                      (((((f_Sta_read (10 : Int32) sp) &&& (64512 : Int32)) + ((64 : Int32) * (((((p0 &&& (524287 : Int32)) ^^^ p1) ^^^ (-1 : Int32)) &&& (f_Sta_read (10 : Int32) sp)) &&& (15 : Int32)))) + (8 : Int32)) + (4 : Int32))
                    else
                      if (f_Mem_at ((((f_Sta_read (10 : Int32) sp) &&& (64512 : Int32)) + ((64 : Int32) * (((((p0 &&& (524287 : Int32)) ^^^ p1) ^^^ (-1 : Int32)) &&& (f_Sta_read (10 : Int32) sp)) &&& (15 : Int32)))) + (16 : Int32)) w) = ((((-2147483648 : Int32) + ((128 : Int32) * p0)) + (ush p1 (10 : Int32))) + (64 : Int32)) then
                        (((((f_Sta_read (10 : Int32) sp) &&& (64512 : Int32)) + ((64 : Int32) * (((((p0 &&& (524287 : Int32)) ^^^ p1) ^^^ (-1 : Int32)) &&& (f_Sta_read (10 : Int32) sp)) &&& (15 : Int32)))) + (16 : Int32)) + (4 : Int32))
                      else
                        if (f_Mem_at ((((f_Sta_read (10 : Int32) sp) &&& (64512 : Int32)) + ((64 : Int32) * (((((p0 &&& (524287 : Int32)) ^^^ p1) ^^^ (-1 : Int32)) &&& (f_Sta_read (10 : Int32) sp)) &&& (15 : Int32)))) + (24 : Int32)) w) = ((((-2147483648 : Int32) + ((128 : Int32) * p0)) + (ush p1 (10 : Int32))) + (64 : Int32)) then
                          (((((f_Sta_read (10 : Int32) sp) &&& (64512 : Int32)) + ((64 : Int32) * (((((p0 &&& (524287 : Int32)) ^^^ p1) ^^^ (-1 : Int32)) &&& (f_Sta_read (10 : Int32) sp)) &&& (15 : Int32)))) + (24 : Int32)) + (4 : Int32))
                        else
                          if (f_Mem_at ((((f_Sta_read (10 : Int32) sp) &&& (64512 : Int32)) + ((64 : Int32) * (((((p0 &&& (524287 : Int32)) ^^^ p1) ^^^ (-1 : Int32)) &&& (f_Sta_read (10 : Int32) sp)) &&& (15 : Int32)))) + (32 : Int32)) w) = ((((-2147483648 : Int32) + ((128 : Int32) * p0)) + (ush p1 (10 : Int32))) + (64 : Int32)) then
                            (((((f_Sta_read (10 : Int32) sp) &&& (64512 : Int32)) + ((64 : Int32) * (((((p0 &&& (524287 : Int32)) ^^^ p1) ^^^ (-1 : Int32)) &&& (f_Sta_read (10 : Int32) sp)) &&& (15 : Int32)))) + (32 : Int32)) + (4 : Int32))
                          else
                            if (f_Mem_at ((((f_Sta_read (10 : Int32) sp) &&& (64512 : Int32)) + ((64 : Int32) * (((((p0 &&& (524287 : Int32)) ^^^ p1) ^^^ (-1 : Int32)) &&& (f_Sta_read (10 : Int32) sp)) &&& (15 : Int32)))) + (40 : Int32)) w) = ((((-2147483648 : Int32) + ((128 : Int32) * p0)) + (ush p1 (10 : Int32))) + (64 : Int32)) then
                              (((((f_Sta_read (10 : Int32) sp) &&& (64512 : Int32)) + ((64 : Int32) * (((((p0 &&& (524287 : Int32)) ^^^ p1) ^^^ (-1 : Int32)) &&& (f_Sta_read (10 : Int32) sp)) &&& (15 : Int32)))) + (40 : Int32)) + (4 : Int32))
                            else
                              if (f_Mem_at ((((f_Sta_read (10 : Int32) sp) &&& (64512 : Int32)) + ((64 : Int32) * (((((p0 &&& (524287 : Int32)) ^^^ p1) ^^^ (-1 : Int32)) &&& (f_Sta_read (10 : Int32) sp)) &&& (15 : Int32)))) + (48 : Int32)) w) = ((((-2147483648 : Int32) + ((128 : Int32) * p0)) + (ush p1 (10 : Int32))) + (64 : Int32)) then
                                (((((f_Sta_read (10 : Int32) sp) &&& (64512 : Int32)) + ((64 : Int32) * (((((p0 &&& (524287 : Int32)) ^^^ p1) ^^^ (-1 : Int32)) &&& (f_Sta_read (10 : Int32) sp)) &&& (15 : Int32)))) + (48 : Int32)) + (4 : Int32))
                              else
                                if (f_Mem_at ((((f_Sta_read (10 : Int32) sp) &&& (64512 : Int32)) + ((64 : Int32) * (((((p0 &&& (524287 : Int32)) ^^^ p1) ^^^ (-1 : Int32)) &&& (f_Sta_read (10 : Int32) sp)) &&& (15 : Int32)))) + (56 : Int32)) w) = ((((-2147483648 : Int32) + ((128 : Int32) * p0)) + (ush p1 (10 : Int32))) + (64 : Int32)) then
                                  (((((f_Sta_read (10 : Int32) sp) &&& (64512 : Int32)) + ((64 : Int32) * (((((p0 &&& (524287 : Int32)) ^^^ p1) ^^^ (-1 : Int32)) &&& (f_Sta_read (10 : Int32) sp)) &&& (15 : Int32)))) + (56 : Int32)) + (4 : Int32))
                                else
                                  (-1 : Int32)
set_option maxHeartbeats 4000000 in
set_option maxRecDepth 100000 in
theorem c_Map_findEntry (l : Launch) (D : va_G) (aM aW aS aG aX aQ : Nat) (cW cG cX : ClassId) (w : Nat → Int32) (g : Nat → Int32) (sp : Nat → Int32) (nx : Int32) (lt : Int32) (sm : Int32) (ex : Int32) (en : Int32) (p0 : Int32) (p1 : Int32) : kMi l y_Map_findEntry b_Map_findEntry 10 (some .int) 1 21 D kCl [(cW, .int), (cG, .int), (cX, .int)] [.ref aQ, .int p0, .int p1] [(aM, .inr (8, [.ref aW])), (aW, .inl (cW, 16384, .inl w)), (aS, .inr (9, [.ref aG, .ref aX, .int nx, .int lt, .int sm, .int ex])), (aG, .inl (cG, 32, .inl g)), (aX, .inl (cX, 64, .inl sp)), (aQ, .inr (7, [.ref aM, .ref aS, .int en]))] (f_Map_findEntry p0 p1 w sp) [(aM, .inr (8, [.ref aW])), (aW, .inl (cW, 16384, .inl w)), (aS, .inr (9, [.ref aG, .ref aX, .int nx, .int lt, .int sm, .int ex])), (aG, .inl (cG, 32, .inl g)), (aX, .inl (cX, 64, .inl sp)), (aQ, .inr (7, [.ref aM, .ref aS, .int en]))] := by
  refine k_entry (Qc := fun A => kQi D kCl [(cW, .int), (cG, .int), (cX, .int)] (f_Map_findEntry p0 p1 w sp) [(aM, .inr (8, [.ref aW])), (aW, .inl (cW, 16384, .inl w)), (aS, .inr (9, [.ref aG, .ref aX, .int nx, .int lt, .int sm, .int ex])), (aG, .inl (cG, 32, .inl g)), (aX, .inl (cX, 64, .inl sp)), (aQ, .inr (7, [.ref aM, .ref aS, .int en]))] A) (lv := [(0, .ref aQ), (1, .int p0), (2, .int p1)]) (by decide) (Nat.le_of_ble_eq_true rfl) rfl ?_
  intro p e s m below meth c A ls hx hb hr hml hB hown hlocks hin hA hK hN hP hD hS hl
  have hown : s.vm.findClass "MappedProcessor$Mapper" = some m.cls := hown
  refine lv_iload_n hx hb d_Map_findEntry_0 rfl (lv_at hl 1 rfl) ?_
  refine lv_ldc (v := (524287 : Int32)) hx hb hown (hB _ mw_335) d_Map_findEntry_1 ?_
  refine lv_iand hx hb d_Map_findEntry_3 ?_
  refine lv_iload_n hx hb d_Map_findEntry_4 rfl (lv_at hl 2 rfl) ?_
  refine lv_ixor hx hb d_Map_findEntry_5 ?_
  refine lv_istore_n (lv' := [(3, .int ((p0 &&& (524287 : Int32)) ^^^ p1)), (0, .ref aQ), (1, .int p0), (2, .int p1)]) hx hb d_Map_findEntry_6 rfl hl (by decide) rfl (fun ls hl => ?_)
  refine lv_ldc (v := (-2147483648 : Int32)) hx hb hown (hB _ mw_336) d_Map_findEntry_7 ?_
  refine lv_sipush (v := (128 : Int32)) hx hb d_Map_findEntry_9 (by decide) ?_
  refine lv_iload_n hx hb d_Map_findEntry_12 rfl (lv_at hl 2 rfl) ?_
  refine lv_imul hx hb d_Map_findEntry_13 ?_
  refine lv_iadd hx hb d_Map_findEntry_14 ?_
  refine lv_iload_n hx hb d_Map_findEntry_15 rfl (lv_at hl 3 rfl) ?_
  refine lv_bipush (v := (10 : Int32)) hx hb d_Map_findEntry_16 (by decide) ?_
  refine lv_iushr (v := (ush p1 (10 : Int32))) hx hb d_Map_findEntry_18 rfl ?_
  refine lv_iadd hx hb d_Map_findEntry_19 ?_
  refine lv_istore (lv' := [(4, .int (((-2147483648 : Int32) + ((128 : Int32) * p0)) + (ush p1 (10 : Int32)))), (3, .int ((p0 &&& (524287 : Int32)) ^^^ p1)), (0, .ref aQ), (1, .int p0), (2, .int p1)]) hx hb d_Map_findEntry_20 hl (by decide) rfl (fun ls hl => ?_)
  refine lv_aload_n hx hb d_Map_findEntry_22 rfl (lv_at hl 2 rfl) ?_
  refine va_get (D := D) (ci := 7) (v := .ref aS) (C := "MappedProcessor$Mapper") (T := T_Map) (N := 3) hx hb hB iw_Map hown hK hP 5 rfl rfl 1 (by decide) (hB _ mw_65) (fun _ h9 => h9) rfl d_Map_findEntry_23 ?_
  refine lv_bipush (v := (10 : Int32)) hx hb d_Map_findEntry_26 (by decide) ?_
  refine k_cVi (As := [.int (10 : Int32)]) (rest := []) (wr := [(aM, .inr (8, [.ref aW])), (aW, .inl (cW, 16384, .inl w)), (aQ, .inr (7, [.ref aM, .ref aS, .int en]))]) (wj := [(aM, .inr (8, [.ref aW])), (aW, .inl (cW, 16384, .inl w)), (aS, .inr (9, [.ref aG, .ref aX, .int nx, .int lt, .int sm, .int ex])), (aG, .inl (cG, 32, .inl g)), (aX, .inl (cX, 64, .inl sp)), (aQ, .inr (7, [.ref aM, .ref aS, .int en]))]) ⟨hx, hb, hml, hown, hB⟩ (c_Sta_read l D aS aG aX cG cX g sp nx lt sm ex (10 : Int32)) yl_Sta_read mw_321 hK hN hP hD hS hA [1, 2] [2, 3, 4] [0, 1, 5] [0, 1, 3, 4, 5, 2] rfl rfl rfl rfl (by decide +kernel) 0 rfl rfl rfl rfl hl.1 rfl (Nat.le_of_ble_eq_true rfl) ⟨Nat.le_of_ble_eq_true rfl, Nat.le_of_ble_eq_true rfl⟩ d_Map_findEntry_28 ⟨Nat.le_of_ble_eq_true rfl, Nat.le_of_ble_eq_true rfl⟩ (fun H locs hP hD hS => ?_)
  refine lv_istore (lv' := [(5, .int (f_Sta_read (10 : Int32) sp)), (4, .int (((-2147483648 : Int32) + ((128 : Int32) * p0)) + (ush p1 (10 : Int32)))), (3, .int ((p0 &&& (524287 : Int32)) ^^^ p1)), (0, .ref aQ), (1, .int p0), (2, .int p1)]) hx hb d_Map_findEntry_31 hl (by decide) rfl (fun ls hl => ?_)
  refine lv_iconst (v := (0 : Int32)) hx hb d_Map_findEntry_33 (by decide) ?_
  refine lv_istore (lv' := [(6, .int (0 : Int32)), (5, .int (f_Sta_read (10 : Int32) sp)), (4, .int (((-2147483648 : Int32) + ((128 : Int32) * p0)) + (ush p1 (10 : Int32)))), (3, .int ((p0 &&& (524287 : Int32)) ^^^ p1)), (0, .ref aQ), (1, .int p0), (2, .int p1)]) hx hb d_Map_findEntry_34 hl (by decide) rfl (fun ls hl => ?_)
  refine lv_iload hx hb d_Map_findEntry_36 (lv_at hl 0 rfl) ?_
  refine lv_bipush (v := (16 : Int32)) hx hb d_Map_findEntry_38 (by decide) ?_
  refine lv_icmp_ge (tgt := 131) hx hb d_Map_findEntry_40 (by decide) (fun h1 => ?_) (fun h1 => ?_)
  · exact absurd h1 (by decide)
  refine lv_iload hx hb d_Map_findEntry_43 (lv_at hl 0 rfl) ?_
  refine lv_bipush (v := (8 : Int32)) hx hb d_Map_findEntry_45 (by decide) ?_
  refine lv_icmp_ge (tgt := 54) hx hb d_Map_findEntry_47 (by decide) (fun h2 => ?_) (fun h2 => ?_)
  · exact absurd h2 (by decide)
  refine lv_iload_n hx hb d_Map_findEntry_50 rfl (lv_at hl 3 rfl) ?_
  refine lv_goto (tgt := 57) hx hb d_Map_findEntry_51 (by decide) ?_
  refine lv_istore (lv' := [(7, .int ((p0 &&& (524287 : Int32)) ^^^ p1)), (6, .int (0 : Int32)), (5, .int (f_Sta_read (10 : Int32) sp)), (4, .int (((-2147483648 : Int32) + ((128 : Int32) * p0)) + (ush p1 (10 : Int32)))), (3, .int ((p0 &&& (524287 : Int32)) ^^^ p1)), (0, .ref aQ), (1, .int p0), (2, .int p1)]) hx hb d_Map_findEntry_57 hl (by decide) rfl (fun ls hl => ?_)
  refine lv_iload hx hb d_Map_findEntry_59 (lv_at hl 1 rfl) ?_
  refine lv_bipush (v := (8 : Int32)) hx hb d_Map_findEntry_61 (by decide) ?_
  refine lv_icmp_ge (tgt := 71) hx hb d_Map_findEntry_63 (by decide) (fun h3 => ?_) (fun h3 => ?_)
  · exact absurd h3 (by decide)
  refine lv_iload hx hb d_Map_findEntry_66 (lv_at hl 3 rfl) ?_
  refine lv_goto (tgt := 76) hx hb d_Map_findEntry_68 (by decide) ?_
  refine lv_istore (lv' := [(8, .int (((-2147483648 : Int32) + ((128 : Int32) * p0)) + (ush p1 (10 : Int32)))), (7, .int ((p0 &&& (524287 : Int32)) ^^^ p1)), (6, .int (0 : Int32)), (5, .int (f_Sta_read (10 : Int32) sp)), (4, .int (((-2147483648 : Int32) + ((128 : Int32) * p0)) + (ush p1 (10 : Int32)))), (3, .int ((p0 &&& (524287 : Int32)) ^^^ p1)), (0, .ref aQ), (1, .int p0), (2, .int p1)]) hx hb d_Map_findEntry_76 hl (by decide) rfl (fun ls hl => ?_)
  refine lv_iload hx hb d_Map_findEntry_78 (lv_at hl 3 rfl) ?_
  refine lv_ldc (v := (64512 : Int32)) hx hb hown (hB _ mw_337) d_Map_findEntry_80 ?_
  refine lv_iand hx hb d_Map_findEntry_82 ?_
  refine lv_bipush (v := (64 : Int32)) hx hb d_Map_findEntry_83 (by decide) ?_
  refine lv_iload hx hb d_Map_findEntry_85 (lv_at hl 1 rfl) ?_
  refine lv_iload hx hb d_Map_findEntry_87 (lv_at hl 3 rfl) ?_
  refine lv_iand hx hb d_Map_findEntry_89 ?_
  refine lv_bipush (v := (15 : Int32)) hx hb d_Map_findEntry_90 (by decide) ?_
  refine lv_iand hx hb d_Map_findEntry_92 ?_
  refine lv_imul hx hb d_Map_findEntry_93 ?_
  refine lv_iadd hx hb d_Map_findEntry_94 ?_
  refine lv_bipush (v := (8 : Int32)) hx hb d_Map_findEntry_95 (by decide) ?_
  refine lv_iload hx hb d_Map_findEntry_97 (lv_at hl 2 rfl) ?_
  refine lv_bipush (v := (7 : Int32)) hx hb d_Map_findEntry_99 (by decide) ?_
  refine lv_iand hx hb d_Map_findEntry_101 ?_
  refine k_fold (0 : Int32) (by decide) ?_
  refine lv_imul hx hb d_Map_findEntry_102 ?_
  refine k_fold (0 : Int32) (by decide) ?_
  refine lv_iadd hx hb d_Map_findEntry_103 ?_
  refine lv_istore (lv' := [(9, .int ((((f_Sta_read (10 : Int32) sp) &&& (64512 : Int32)) + ((64 : Int32) * ((((p0 &&& (524287 : Int32)) ^^^ p1) &&& (f_Sta_read (10 : Int32) sp)) &&& (15 : Int32)))) + (0 : Int32))), (8, .int (((-2147483648 : Int32) + ((128 : Int32) * p0)) + (ush p1 (10 : Int32)))), (7, .int ((p0 &&& (524287 : Int32)) ^^^ p1)), (6, .int (0 : Int32)), (5, .int (f_Sta_read (10 : Int32) sp)), (4, .int (((-2147483648 : Int32) + ((128 : Int32) * p0)) + (ush p1 (10 : Int32)))), (3, .int ((p0 &&& (524287 : Int32)) ^^^ p1)), (0, .ref aQ), (1, .int p0), (2, .int p1)]) hx hb d_Map_findEntry_104 hl (by decide) rfl (fun ls hl => ?_)
  refine lv_aload_n hx hb d_Map_findEntry_106 rfl (lv_at hl 7 rfl) ?_
  refine va_get (D := D) (ci := 7) (v := .ref aM) (C := "MappedProcessor$Mapper") (T := T_Map) (N := 3) hx hb hB iw_Map hown hK hP 5 rfl rfl 0 (by decide) (hB _ mw_64) (fun _ h9 => h9) rfl d_Map_findEntry_107 ?_
  refine lv_iload hx hb d_Map_findEntry_110 (lv_at hl 0 rfl) ?_
  refine k_cVi (As := [.int ((((f_Sta_read (10 : Int32) sp) &&& (64512 : Int32)) + ((64 : Int32) * ((((p0 &&& (524287 : Int32)) ^^^ p1) &&& (f_Sta_read (10 : Int32) sp)) &&& (15 : Int32)))) + (0 : Int32))]) (rest := []) (wr := [(aS, .inr (9, [.ref aG, .ref aX, .int nx, .int lt, .int sm, .int ex])), (aG, .inl (cG, 32, .inl g)), (aX, .inl (cX, 64, .inl sp)), (aQ, .inr (7, [.ref aM, .ref aS, .int en]))]) (wj := [(aM, .inr (8, [.ref aW])), (aW, .inl (cW, 16384, .inl w)), (aS, .inr (9, [.ref aG, .ref aX, .int nx, .int lt, .int sm, .int ex])), (aG, .inl (cG, 32, .inl g)), (aX, .inl (cX, 64, .inl sp)), (aQ, .inr (7, [.ref aM, .ref aS, .int en]))]) ⟨hx, hb, hml, hown, hB⟩ (c_Mem_at l D aM aW cW w ((((f_Sta_read (10 : Int32) sp) &&& (64512 : Int32)) + ((64 : Int32) * ((((p0 &&& (524287 : Int32)) ^^^ p1) &&& (f_Sta_read (10 : Int32) sp)) &&& (15 : Int32)))) + (0 : Int32))) yl_Mem_at mw_338 hK hN hP hD hS hA [0] [0, 1] [2, 3, 4, 5] [4, 5, 0, 1, 2, 3] rfl rfl rfl rfl (by decide +kernel) 0 rfl rfl rfl rfl hl.1 rfl (Nat.le_of_ble_eq_true rfl) ⟨Nat.le_of_ble_eq_true rfl, Nat.le_of_ble_eq_true rfl⟩ d_Map_findEntry_112 ⟨Nat.le_of_ble_eq_true rfl, Nat.le_of_ble_eq_true rfl⟩ (fun H locs hP hD hS => ?_)
  refine lv_iload hx hb d_Map_findEntry_115 (lv_at hl 1 rfl) ?_
  refine lv_icmp_ne (tgt := 125) hx hb d_Map_findEntry_117 (by decide) (fun (h4 : ¬ (f_Mem_at ((((f_Sta_read (10 : Int32) sp) &&& (64512 : Int32)) + ((64 : Int32) * ((((p0 &&& (524287 : Int32)) ^^^ p1) &&& (f_Sta_read (10 : Int32) sp)) &&& (15 : Int32)))) + (0 : Int32)) w) = (((-2147483648 : Int32) + ((128 : Int32) * p0)) + (ush p1 (10 : Int32)))) => ?_) (fun (h4 : (f_Mem_at ((((f_Sta_read (10 : Int32) sp) &&& (64512 : Int32)) + ((64 : Int32) * ((((p0 &&& (524287 : Int32)) ^^^ p1) &&& (f_Sta_read (10 : Int32) sp)) &&& (15 : Int32)))) + (0 : Int32)) w) = (((-2147483648 : Int32) + ((128 : Int32) * p0)) + (ush p1 (10 : Int32)))) => ?_)
  · refine lv_iinc (v := (1 : Int32)) (lv' := [(6, .int (1 : Int32)), (9, .int ((((f_Sta_read (10 : Int32) sp) &&& (64512 : Int32)) + ((64 : Int32) * ((((p0 &&& (524287 : Int32)) ^^^ p1) &&& (f_Sta_read (10 : Int32) sp)) &&& (15 : Int32)))) + (0 : Int32))), (8, .int (((-2147483648 : Int32) + ((128 : Int32) * p0)) + (ush p1 (10 : Int32)))), (7, .int ((p0 &&& (524287 : Int32)) ^^^ p1)), (5, .int (f_Sta_read (10 : Int32) sp)), (4, .int (((-2147483648 : Int32) + ((128 : Int32) * p0)) + (ush p1 (10 : Int32)))), (3, .int ((p0 &&& (524287 : Int32)) ^^^ p1)), (0, .ref aQ), (1, .int p0), (2, .int p1)]) hx hb d_Map_findEntry_125 hl (k := 3) rfl (by decide) (by decide) rfl (fun ls hl => ?_)
    refine lv_goto (tgt := 36) hx hb d_Map_findEntry_128 (by decide) ?_
    refine lv_iload hx hb d_Map_findEntry_36 (lv_at hl 0 rfl) ?_
    refine lv_bipush (v := (16 : Int32)) hx hb d_Map_findEntry_38 (by decide) ?_
    refine lv_icmp_ge (tgt := 131) hx hb d_Map_findEntry_40 (by decide) (fun h5 => ?_) (fun h5 => ?_)
    · exact absurd h5 (by decide)
    refine lv_iload hx hb d_Map_findEntry_43 (lv_at hl 0 rfl) ?_
    refine lv_bipush (v := (8 : Int32)) hx hb d_Map_findEntry_45 (by decide) ?_
    refine lv_icmp_ge (tgt := 54) hx hb d_Map_findEntry_47 (by decide) (fun h6 => ?_) (fun h6 => ?_)
    · exact absurd h6 (by decide)
    refine lv_iload_n hx hb d_Map_findEntry_50 rfl (lv_at hl 6 rfl) ?_
    refine lv_goto (tgt := 57) hx hb d_Map_findEntry_51 (by decide) ?_
    refine lv_istore (lv' := [(7, .int ((p0 &&& (524287 : Int32)) ^^^ p1)), (6, .int (1 : Int32)), (9, .int ((((f_Sta_read (10 : Int32) sp) &&& (64512 : Int32)) + ((64 : Int32) * ((((p0 &&& (524287 : Int32)) ^^^ p1) &&& (f_Sta_read (10 : Int32) sp)) &&& (15 : Int32)))) + (0 : Int32))), (8, .int (((-2147483648 : Int32) + ((128 : Int32) * p0)) + (ush p1 (10 : Int32)))), (5, .int (f_Sta_read (10 : Int32) sp)), (4, .int (((-2147483648 : Int32) + ((128 : Int32) * p0)) + (ush p1 (10 : Int32)))), (3, .int ((p0 &&& (524287 : Int32)) ^^^ p1)), (0, .ref aQ), (1, .int p0), (2, .int p1)]) hx hb d_Map_findEntry_57 hl (by decide) rfl (fun ls hl => ?_)
    refine lv_iload hx hb d_Map_findEntry_59 (lv_at hl 1 rfl) ?_
    refine lv_bipush (v := (8 : Int32)) hx hb d_Map_findEntry_61 (by decide) ?_
    refine lv_icmp_ge (tgt := 71) hx hb d_Map_findEntry_63 (by decide) (fun h7 => ?_) (fun h7 => ?_)
    · exact absurd h7 (by decide)
    refine lv_iload hx hb d_Map_findEntry_66 (lv_at hl 5 rfl) ?_
    refine lv_goto (tgt := 76) hx hb d_Map_findEntry_68 (by decide) ?_
    refine lv_istore (lv' := [(8, .int (((-2147483648 : Int32) + ((128 : Int32) * p0)) + (ush p1 (10 : Int32)))), (7, .int ((p0 &&& (524287 : Int32)) ^^^ p1)), (6, .int (1 : Int32)), (9, .int ((((f_Sta_read (10 : Int32) sp) &&& (64512 : Int32)) + ((64 : Int32) * ((((p0 &&& (524287 : Int32)) ^^^ p1) &&& (f_Sta_read (10 : Int32) sp)) &&& (15 : Int32)))) + (0 : Int32))), (5, .int (f_Sta_read (10 : Int32) sp)), (4, .int (((-2147483648 : Int32) + ((128 : Int32) * p0)) + (ush p1 (10 : Int32)))), (3, .int ((p0 &&& (524287 : Int32)) ^^^ p1)), (0, .ref aQ), (1, .int p0), (2, .int p1)]) hx hb d_Map_findEntry_76 hl (by decide) rfl (fun ls hl => ?_)
    refine lv_iload hx hb d_Map_findEntry_78 (lv_at hl 4 rfl) ?_
    refine lv_ldc (v := (64512 : Int32)) hx hb hown (hB _ mw_337) d_Map_findEntry_80 ?_
    refine lv_iand hx hb d_Map_findEntry_82 ?_
    refine lv_bipush (v := (64 : Int32)) hx hb d_Map_findEntry_83 (by decide) ?_
    refine lv_iload hx hb d_Map_findEntry_85 (lv_at hl 1 rfl) ?_
    refine lv_iload hx hb d_Map_findEntry_87 (lv_at hl 4 rfl) ?_
    refine lv_iand hx hb d_Map_findEntry_89 ?_
    refine lv_bipush (v := (15 : Int32)) hx hb d_Map_findEntry_90 (by decide) ?_
    refine lv_iand hx hb d_Map_findEntry_92 ?_
    refine lv_imul hx hb d_Map_findEntry_93 ?_
    refine lv_iadd hx hb d_Map_findEntry_94 ?_
    refine lv_bipush (v := (8 : Int32)) hx hb d_Map_findEntry_95 (by decide) ?_
    refine lv_iload hx hb d_Map_findEntry_97 (lv_at hl 2 rfl) ?_
    refine lv_bipush (v := (7 : Int32)) hx hb d_Map_findEntry_99 (by decide) ?_
    refine lv_iand hx hb d_Map_findEntry_101 ?_
    refine k_fold (1 : Int32) (by decide) ?_
    refine lv_imul hx hb d_Map_findEntry_102 ?_
    refine k_fold (8 : Int32) (by decide) ?_
    refine lv_iadd hx hb d_Map_findEntry_103 ?_
    refine lv_istore (lv' := [(9, .int ((((f_Sta_read (10 : Int32) sp) &&& (64512 : Int32)) + ((64 : Int32) * ((((p0 &&& (524287 : Int32)) ^^^ p1) &&& (f_Sta_read (10 : Int32) sp)) &&& (15 : Int32)))) + (8 : Int32))), (8, .int (((-2147483648 : Int32) + ((128 : Int32) * p0)) + (ush p1 (10 : Int32)))), (7, .int ((p0 &&& (524287 : Int32)) ^^^ p1)), (6, .int (1 : Int32)), (5, .int (f_Sta_read (10 : Int32) sp)), (4, .int (((-2147483648 : Int32) + ((128 : Int32) * p0)) + (ush p1 (10 : Int32)))), (3, .int ((p0 &&& (524287 : Int32)) ^^^ p1)), (0, .ref aQ), (1, .int p0), (2, .int p1)]) hx hb d_Map_findEntry_104 hl (by decide) rfl (fun ls hl => ?_)
    refine lv_aload_n hx hb d_Map_findEntry_106 rfl (lv_at hl 7 rfl) ?_
    refine va_get (D := D) (ci := 7) (v := .ref aM) (C := "MappedProcessor$Mapper") (T := T_Map) (N := 3) hx hb hB iw_Map hown hK hP 5 rfl rfl 0 (by decide) (hB _ mw_64) (fun _ h9 => h9) rfl d_Map_findEntry_107 ?_
    refine lv_iload hx hb d_Map_findEntry_110 (lv_at hl 0 rfl) ?_
    refine k_cVi (As := [.int ((((f_Sta_read (10 : Int32) sp) &&& (64512 : Int32)) + ((64 : Int32) * ((((p0 &&& (524287 : Int32)) ^^^ p1) &&& (f_Sta_read (10 : Int32) sp)) &&& (15 : Int32)))) + (8 : Int32))]) (rest := []) (wr := [(aS, .inr (9, [.ref aG, .ref aX, .int nx, .int lt, .int sm, .int ex])), (aG, .inl (cG, 32, .inl g)), (aX, .inl (cX, 64, .inl sp)), (aQ, .inr (7, [.ref aM, .ref aS, .int en]))]) (wj := [(aM, .inr (8, [.ref aW])), (aW, .inl (cW, 16384, .inl w)), (aS, .inr (9, [.ref aG, .ref aX, .int nx, .int lt, .int sm, .int ex])), (aG, .inl (cG, 32, .inl g)), (aX, .inl (cX, 64, .inl sp)), (aQ, .inr (7, [.ref aM, .ref aS, .int en]))]) ⟨hx, hb, hml, hown, hB⟩ (c_Mem_at l D aM aW cW w ((((f_Sta_read (10 : Int32) sp) &&& (64512 : Int32)) + ((64 : Int32) * ((((p0 &&& (524287 : Int32)) ^^^ p1) &&& (f_Sta_read (10 : Int32) sp)) &&& (15 : Int32)))) + (8 : Int32))) yl_Mem_at mw_338 hK hN hP hD hS hA [0] [0, 1] [2, 3, 4, 5] [4, 5, 0, 1, 2, 3] rfl rfl rfl rfl (by decide +kernel) 0 rfl rfl rfl rfl hl.1 rfl (Nat.le_of_ble_eq_true rfl) ⟨Nat.le_of_ble_eq_true rfl, Nat.le_of_ble_eq_true rfl⟩ d_Map_findEntry_112 ⟨Nat.le_of_ble_eq_true rfl, Nat.le_of_ble_eq_true rfl⟩ (fun H locs hP hD hS => ?_)
    refine lv_iload hx hb d_Map_findEntry_115 (lv_at hl 1 rfl) ?_
    refine lv_icmp_ne (tgt := 125) hx hb d_Map_findEntry_117 (by decide) (fun (h8 : ¬ (f_Mem_at ((((f_Sta_read (10 : Int32) sp) &&& (64512 : Int32)) + ((64 : Int32) * ((((p0 &&& (524287 : Int32)) ^^^ p1) &&& (f_Sta_read (10 : Int32) sp)) &&& (15 : Int32)))) + (8 : Int32)) w) = (((-2147483648 : Int32) + ((128 : Int32) * p0)) + (ush p1 (10 : Int32)))) => ?_) (fun (h8 : (f_Mem_at ((((f_Sta_read (10 : Int32) sp) &&& (64512 : Int32)) + ((64 : Int32) * ((((p0 &&& (524287 : Int32)) ^^^ p1) &&& (f_Sta_read (10 : Int32) sp)) &&& (15 : Int32)))) + (8 : Int32)) w) = (((-2147483648 : Int32) + ((128 : Int32) * p0)) + (ush p1 (10 : Int32)))) => ?_)
    · refine lv_iinc (v := (2 : Int32)) (lv' := [(6, .int (2 : Int32)), (9, .int ((((f_Sta_read (10 : Int32) sp) &&& (64512 : Int32)) + ((64 : Int32) * ((((p0 &&& (524287 : Int32)) ^^^ p1) &&& (f_Sta_read (10 : Int32) sp)) &&& (15 : Int32)))) + (8 : Int32))), (8, .int (((-2147483648 : Int32) + ((128 : Int32) * p0)) + (ush p1 (10 : Int32)))), (7, .int ((p0 &&& (524287 : Int32)) ^^^ p1)), (5, .int (f_Sta_read (10 : Int32) sp)), (4, .int (((-2147483648 : Int32) + ((128 : Int32) * p0)) + (ush p1 (10 : Int32)))), (3, .int ((p0 &&& (524287 : Int32)) ^^^ p1)), (0, .ref aQ), (1, .int p0), (2, .int p1)]) hx hb d_Map_findEntry_125 hl (k := 3) rfl (by decide) (by decide) rfl (fun ls hl => ?_)
      refine lv_goto (tgt := 36) hx hb d_Map_findEntry_128 (by decide) ?_
      refine lv_iload hx hb d_Map_findEntry_36 (lv_at hl 0 rfl) ?_
      refine lv_bipush (v := (16 : Int32)) hx hb d_Map_findEntry_38 (by decide) ?_
      refine lv_icmp_ge (tgt := 131) hx hb d_Map_findEntry_40 (by decide) (fun h9 => ?_) (fun h9 => ?_)
      · exact absurd h9 (by decide)
      refine lv_iload hx hb d_Map_findEntry_43 (lv_at hl 0 rfl) ?_
      refine lv_bipush (v := (8 : Int32)) hx hb d_Map_findEntry_45 (by decide) ?_
      refine lv_icmp_ge (tgt := 54) hx hb d_Map_findEntry_47 (by decide) (fun h10 => ?_) (fun h10 => ?_)
      · exact absurd h10 (by decide)
      refine lv_iload_n hx hb d_Map_findEntry_50 rfl (lv_at hl 6 rfl) ?_
      refine lv_goto (tgt := 57) hx hb d_Map_findEntry_51 (by decide) ?_
      refine lv_istore (lv' := [(7, .int ((p0 &&& (524287 : Int32)) ^^^ p1)), (6, .int (2 : Int32)), (9, .int ((((f_Sta_read (10 : Int32) sp) &&& (64512 : Int32)) + ((64 : Int32) * ((((p0 &&& (524287 : Int32)) ^^^ p1) &&& (f_Sta_read (10 : Int32) sp)) &&& (15 : Int32)))) + (8 : Int32))), (8, .int (((-2147483648 : Int32) + ((128 : Int32) * p0)) + (ush p1 (10 : Int32)))), (5, .int (f_Sta_read (10 : Int32) sp)), (4, .int (((-2147483648 : Int32) + ((128 : Int32) * p0)) + (ush p1 (10 : Int32)))), (3, .int ((p0 &&& (524287 : Int32)) ^^^ p1)), (0, .ref aQ), (1, .int p0), (2, .int p1)]) hx hb d_Map_findEntry_57 hl (by decide) rfl (fun ls hl => ?_)
      refine lv_iload hx hb d_Map_findEntry_59 (lv_at hl 1 rfl) ?_
      refine lv_bipush (v := (8 : Int32)) hx hb d_Map_findEntry_61 (by decide) ?_
      refine lv_icmp_ge (tgt := 71) hx hb d_Map_findEntry_63 (by decide) (fun h11 => ?_) (fun h11 => ?_)
      · exact absurd h11 (by decide)
      refine lv_iload hx hb d_Map_findEntry_66 (lv_at hl 5 rfl) ?_
      refine lv_goto (tgt := 76) hx hb d_Map_findEntry_68 (by decide) ?_
      refine lv_istore (lv' := [(8, .int (((-2147483648 : Int32) + ((128 : Int32) * p0)) + (ush p1 (10 : Int32)))), (7, .int ((p0 &&& (524287 : Int32)) ^^^ p1)), (6, .int (2 : Int32)), (9, .int ((((f_Sta_read (10 : Int32) sp) &&& (64512 : Int32)) + ((64 : Int32) * ((((p0 &&& (524287 : Int32)) ^^^ p1) &&& (f_Sta_read (10 : Int32) sp)) &&& (15 : Int32)))) + (8 : Int32))), (5, .int (f_Sta_read (10 : Int32) sp)), (4, .int (((-2147483648 : Int32) + ((128 : Int32) * p0)) + (ush p1 (10 : Int32)))), (3, .int ((p0 &&& (524287 : Int32)) ^^^ p1)), (0, .ref aQ), (1, .int p0), (2, .int p1)]) hx hb d_Map_findEntry_76 hl (by decide) rfl (fun ls hl => ?_)
      refine lv_iload hx hb d_Map_findEntry_78 (lv_at hl 4 rfl) ?_
      refine lv_ldc (v := (64512 : Int32)) hx hb hown (hB _ mw_337) d_Map_findEntry_80 ?_
      refine lv_iand hx hb d_Map_findEntry_82 ?_
      refine lv_bipush (v := (64 : Int32)) hx hb d_Map_findEntry_83 (by decide) ?_
      refine lv_iload hx hb d_Map_findEntry_85 (lv_at hl 1 rfl) ?_
      refine lv_iload hx hb d_Map_findEntry_87 (lv_at hl 4 rfl) ?_
      refine lv_iand hx hb d_Map_findEntry_89 ?_
      refine lv_bipush (v := (15 : Int32)) hx hb d_Map_findEntry_90 (by decide) ?_
      refine lv_iand hx hb d_Map_findEntry_92 ?_
      refine lv_imul hx hb d_Map_findEntry_93 ?_
      refine lv_iadd hx hb d_Map_findEntry_94 ?_
      refine lv_bipush (v := (8 : Int32)) hx hb d_Map_findEntry_95 (by decide) ?_
      refine lv_iload hx hb d_Map_findEntry_97 (lv_at hl 2 rfl) ?_
      refine lv_bipush (v := (7 : Int32)) hx hb d_Map_findEntry_99 (by decide) ?_
      refine lv_iand hx hb d_Map_findEntry_101 ?_
      refine k_fold (2 : Int32) (by decide) ?_
      refine lv_imul hx hb d_Map_findEntry_102 ?_
      refine k_fold (16 : Int32) (by decide) ?_
      refine lv_iadd hx hb d_Map_findEntry_103 ?_
      refine lv_istore (lv' := [(9, .int ((((f_Sta_read (10 : Int32) sp) &&& (64512 : Int32)) + ((64 : Int32) * ((((p0 &&& (524287 : Int32)) ^^^ p1) &&& (f_Sta_read (10 : Int32) sp)) &&& (15 : Int32)))) + (16 : Int32))), (8, .int (((-2147483648 : Int32) + ((128 : Int32) * p0)) + (ush p1 (10 : Int32)))), (7, .int ((p0 &&& (524287 : Int32)) ^^^ p1)), (6, .int (2 : Int32)), (5, .int (f_Sta_read (10 : Int32) sp)), (4, .int (((-2147483648 : Int32) + ((128 : Int32) * p0)) + (ush p1 (10 : Int32)))), (3, .int ((p0 &&& (524287 : Int32)) ^^^ p1)), (0, .ref aQ), (1, .int p0), (2, .int p1)]) hx hb d_Map_findEntry_104 hl (by decide) rfl (fun ls hl => ?_)
      refine lv_aload_n hx hb d_Map_findEntry_106 rfl (lv_at hl 7 rfl) ?_
      refine va_get (D := D) (ci := 7) (v := .ref aM) (C := "MappedProcessor$Mapper") (T := T_Map) (N := 3) hx hb hB iw_Map hown hK hP 5 rfl rfl 0 (by decide) (hB _ mw_64) (fun _ h9 => h9) rfl d_Map_findEntry_107 ?_
      refine lv_iload hx hb d_Map_findEntry_110 (lv_at hl 0 rfl) ?_
      refine k_cVi (As := [.int ((((f_Sta_read (10 : Int32) sp) &&& (64512 : Int32)) + ((64 : Int32) * ((((p0 &&& (524287 : Int32)) ^^^ p1) &&& (f_Sta_read (10 : Int32) sp)) &&& (15 : Int32)))) + (16 : Int32))]) (rest := []) (wr := [(aS, .inr (9, [.ref aG, .ref aX, .int nx, .int lt, .int sm, .int ex])), (aG, .inl (cG, 32, .inl g)), (aX, .inl (cX, 64, .inl sp)), (aQ, .inr (7, [.ref aM, .ref aS, .int en]))]) (wj := [(aM, .inr (8, [.ref aW])), (aW, .inl (cW, 16384, .inl w)), (aS, .inr (9, [.ref aG, .ref aX, .int nx, .int lt, .int sm, .int ex])), (aG, .inl (cG, 32, .inl g)), (aX, .inl (cX, 64, .inl sp)), (aQ, .inr (7, [.ref aM, .ref aS, .int en]))]) ⟨hx, hb, hml, hown, hB⟩ (c_Mem_at l D aM aW cW w ((((f_Sta_read (10 : Int32) sp) &&& (64512 : Int32)) + ((64 : Int32) * ((((p0 &&& (524287 : Int32)) ^^^ p1) &&& (f_Sta_read (10 : Int32) sp)) &&& (15 : Int32)))) + (16 : Int32))) yl_Mem_at mw_338 hK hN hP hD hS hA [0] [0, 1] [2, 3, 4, 5] [4, 5, 0, 1, 2, 3] rfl rfl rfl rfl (by decide +kernel) 0 rfl rfl rfl rfl hl.1 rfl (Nat.le_of_ble_eq_true rfl) ⟨Nat.le_of_ble_eq_true rfl, Nat.le_of_ble_eq_true rfl⟩ d_Map_findEntry_112 ⟨Nat.le_of_ble_eq_true rfl, Nat.le_of_ble_eq_true rfl⟩ (fun H locs hP hD hS => ?_)
      refine lv_iload hx hb d_Map_findEntry_115 (lv_at hl 1 rfl) ?_
      refine lv_icmp_ne (tgt := 125) hx hb d_Map_findEntry_117 (by decide) (fun (h12 : ¬ (f_Mem_at ((((f_Sta_read (10 : Int32) sp) &&& (64512 : Int32)) + ((64 : Int32) * ((((p0 &&& (524287 : Int32)) ^^^ p1) &&& (f_Sta_read (10 : Int32) sp)) &&& (15 : Int32)))) + (16 : Int32)) w) = (((-2147483648 : Int32) + ((128 : Int32) * p0)) + (ush p1 (10 : Int32)))) => ?_) (fun (h12 : (f_Mem_at ((((f_Sta_read (10 : Int32) sp) &&& (64512 : Int32)) + ((64 : Int32) * ((((p0 &&& (524287 : Int32)) ^^^ p1) &&& (f_Sta_read (10 : Int32) sp)) &&& (15 : Int32)))) + (16 : Int32)) w) = (((-2147483648 : Int32) + ((128 : Int32) * p0)) + (ush p1 (10 : Int32)))) => ?_)
      · refine lv_iinc (v := (3 : Int32)) (lv' := [(6, .int (3 : Int32)), (9, .int ((((f_Sta_read (10 : Int32) sp) &&& (64512 : Int32)) + ((64 : Int32) * ((((p0 &&& (524287 : Int32)) ^^^ p1) &&& (f_Sta_read (10 : Int32) sp)) &&& (15 : Int32)))) + (16 : Int32))), (8, .int (((-2147483648 : Int32) + ((128 : Int32) * p0)) + (ush p1 (10 : Int32)))), (7, .int ((p0 &&& (524287 : Int32)) ^^^ p1)), (5, .int (f_Sta_read (10 : Int32) sp)), (4, .int (((-2147483648 : Int32) + ((128 : Int32) * p0)) + (ush p1 (10 : Int32)))), (3, .int ((p0 &&& (524287 : Int32)) ^^^ p1)), (0, .ref aQ), (1, .int p0), (2, .int p1)]) hx hb d_Map_findEntry_125 hl (k := 3) rfl (by decide) (by decide) rfl (fun ls hl => ?_)
        refine lv_goto (tgt := 36) hx hb d_Map_findEntry_128 (by decide) ?_
        refine lv_iload hx hb d_Map_findEntry_36 (lv_at hl 0 rfl) ?_
        refine lv_bipush (v := (16 : Int32)) hx hb d_Map_findEntry_38 (by decide) ?_
        refine lv_icmp_ge (tgt := 131) hx hb d_Map_findEntry_40 (by decide) (fun h13 => ?_) (fun h13 => ?_)
        · exact absurd h13 (by decide)
        refine lv_iload hx hb d_Map_findEntry_43 (lv_at hl 0 rfl) ?_
        refine lv_bipush (v := (8 : Int32)) hx hb d_Map_findEntry_45 (by decide) ?_
        refine lv_icmp_ge (tgt := 54) hx hb d_Map_findEntry_47 (by decide) (fun h14 => ?_) (fun h14 => ?_)
        · exact absurd h14 (by decide)
        refine lv_iload_n hx hb d_Map_findEntry_50 rfl (lv_at hl 6 rfl) ?_
        refine lv_goto (tgt := 57) hx hb d_Map_findEntry_51 (by decide) ?_
        refine lv_istore (lv' := [(7, .int ((p0 &&& (524287 : Int32)) ^^^ p1)), (6, .int (3 : Int32)), (9, .int ((((f_Sta_read (10 : Int32) sp) &&& (64512 : Int32)) + ((64 : Int32) * ((((p0 &&& (524287 : Int32)) ^^^ p1) &&& (f_Sta_read (10 : Int32) sp)) &&& (15 : Int32)))) + (16 : Int32))), (8, .int (((-2147483648 : Int32) + ((128 : Int32) * p0)) + (ush p1 (10 : Int32)))), (5, .int (f_Sta_read (10 : Int32) sp)), (4, .int (((-2147483648 : Int32) + ((128 : Int32) * p0)) + (ush p1 (10 : Int32)))), (3, .int ((p0 &&& (524287 : Int32)) ^^^ p1)), (0, .ref aQ), (1, .int p0), (2, .int p1)]) hx hb d_Map_findEntry_57 hl (by decide) rfl (fun ls hl => ?_)
        refine lv_iload hx hb d_Map_findEntry_59 (lv_at hl 1 rfl) ?_
        refine lv_bipush (v := (8 : Int32)) hx hb d_Map_findEntry_61 (by decide) ?_
        refine lv_icmp_ge (tgt := 71) hx hb d_Map_findEntry_63 (by decide) (fun h15 => ?_) (fun h15 => ?_)
        · exact absurd h15 (by decide)
        refine lv_iload hx hb d_Map_findEntry_66 (lv_at hl 5 rfl) ?_
        refine lv_goto (tgt := 76) hx hb d_Map_findEntry_68 (by decide) ?_
        refine lv_istore (lv' := [(8, .int (((-2147483648 : Int32) + ((128 : Int32) * p0)) + (ush p1 (10 : Int32)))), (7, .int ((p0 &&& (524287 : Int32)) ^^^ p1)), (6, .int (3 : Int32)), (9, .int ((((f_Sta_read (10 : Int32) sp) &&& (64512 : Int32)) + ((64 : Int32) * ((((p0 &&& (524287 : Int32)) ^^^ p1) &&& (f_Sta_read (10 : Int32) sp)) &&& (15 : Int32)))) + (16 : Int32))), (5, .int (f_Sta_read (10 : Int32) sp)), (4, .int (((-2147483648 : Int32) + ((128 : Int32) * p0)) + (ush p1 (10 : Int32)))), (3, .int ((p0 &&& (524287 : Int32)) ^^^ p1)), (0, .ref aQ), (1, .int p0), (2, .int p1)]) hx hb d_Map_findEntry_76 hl (by decide) rfl (fun ls hl => ?_)
        refine lv_iload hx hb d_Map_findEntry_78 (lv_at hl 4 rfl) ?_
        refine lv_ldc (v := (64512 : Int32)) hx hb hown (hB _ mw_337) d_Map_findEntry_80 ?_
        refine lv_iand hx hb d_Map_findEntry_82 ?_
        refine lv_bipush (v := (64 : Int32)) hx hb d_Map_findEntry_83 (by decide) ?_
        refine lv_iload hx hb d_Map_findEntry_85 (lv_at hl 1 rfl) ?_
        refine lv_iload hx hb d_Map_findEntry_87 (lv_at hl 4 rfl) ?_
        refine lv_iand hx hb d_Map_findEntry_89 ?_
        refine lv_bipush (v := (15 : Int32)) hx hb d_Map_findEntry_90 (by decide) ?_
        refine lv_iand hx hb d_Map_findEntry_92 ?_
        refine lv_imul hx hb d_Map_findEntry_93 ?_
        refine lv_iadd hx hb d_Map_findEntry_94 ?_
        refine lv_bipush (v := (8 : Int32)) hx hb d_Map_findEntry_95 (by decide) ?_
        refine lv_iload hx hb d_Map_findEntry_97 (lv_at hl 2 rfl) ?_
        refine lv_bipush (v := (7 : Int32)) hx hb d_Map_findEntry_99 (by decide) ?_
        refine lv_iand hx hb d_Map_findEntry_101 ?_
        refine k_fold (3 : Int32) (by decide) ?_
        refine lv_imul hx hb d_Map_findEntry_102 ?_
        refine k_fold (24 : Int32) (by decide) ?_
        refine lv_iadd hx hb d_Map_findEntry_103 ?_
        refine lv_istore (lv' := [(9, .int ((((f_Sta_read (10 : Int32) sp) &&& (64512 : Int32)) + ((64 : Int32) * ((((p0 &&& (524287 : Int32)) ^^^ p1) &&& (f_Sta_read (10 : Int32) sp)) &&& (15 : Int32)))) + (24 : Int32))), (8, .int (((-2147483648 : Int32) + ((128 : Int32) * p0)) + (ush p1 (10 : Int32)))), (7, .int ((p0 &&& (524287 : Int32)) ^^^ p1)), (6, .int (3 : Int32)), (5, .int (f_Sta_read (10 : Int32) sp)), (4, .int (((-2147483648 : Int32) + ((128 : Int32) * p0)) + (ush p1 (10 : Int32)))), (3, .int ((p0 &&& (524287 : Int32)) ^^^ p1)), (0, .ref aQ), (1, .int p0), (2, .int p1)]) hx hb d_Map_findEntry_104 hl (by decide) rfl (fun ls hl => ?_)
        refine lv_aload_n hx hb d_Map_findEntry_106 rfl (lv_at hl 7 rfl) ?_
        refine va_get (D := D) (ci := 7) (v := .ref aM) (C := "MappedProcessor$Mapper") (T := T_Map) (N := 3) hx hb hB iw_Map hown hK hP 5 rfl rfl 0 (by decide) (hB _ mw_64) (fun _ h9 => h9) rfl d_Map_findEntry_107 ?_
        refine lv_iload hx hb d_Map_findEntry_110 (lv_at hl 0 rfl) ?_
        refine k_cVi (As := [.int ((((f_Sta_read (10 : Int32) sp) &&& (64512 : Int32)) + ((64 : Int32) * ((((p0 &&& (524287 : Int32)) ^^^ p1) &&& (f_Sta_read (10 : Int32) sp)) &&& (15 : Int32)))) + (24 : Int32))]) (rest := []) (wr := [(aS, .inr (9, [.ref aG, .ref aX, .int nx, .int lt, .int sm, .int ex])), (aG, .inl (cG, 32, .inl g)), (aX, .inl (cX, 64, .inl sp)), (aQ, .inr (7, [.ref aM, .ref aS, .int en]))]) (wj := [(aM, .inr (8, [.ref aW])), (aW, .inl (cW, 16384, .inl w)), (aS, .inr (9, [.ref aG, .ref aX, .int nx, .int lt, .int sm, .int ex])), (aG, .inl (cG, 32, .inl g)), (aX, .inl (cX, 64, .inl sp)), (aQ, .inr (7, [.ref aM, .ref aS, .int en]))]) ⟨hx, hb, hml, hown, hB⟩ (c_Mem_at l D aM aW cW w ((((f_Sta_read (10 : Int32) sp) &&& (64512 : Int32)) + ((64 : Int32) * ((((p0 &&& (524287 : Int32)) ^^^ p1) &&& (f_Sta_read (10 : Int32) sp)) &&& (15 : Int32)))) + (24 : Int32))) yl_Mem_at mw_338 hK hN hP hD hS hA [0] [0, 1] [2, 3, 4, 5] [4, 5, 0, 1, 2, 3] rfl rfl rfl rfl (by decide +kernel) 0 rfl rfl rfl rfl hl.1 rfl (Nat.le_of_ble_eq_true rfl) ⟨Nat.le_of_ble_eq_true rfl, Nat.le_of_ble_eq_true rfl⟩ d_Map_findEntry_112 ⟨Nat.le_of_ble_eq_true rfl, Nat.le_of_ble_eq_true rfl⟩ (fun H locs hP hD hS => ?_)
        refine lv_iload hx hb d_Map_findEntry_115 (lv_at hl 1 rfl) ?_
        refine lv_icmp_ne (tgt := 125) hx hb d_Map_findEntry_117 (by decide) (fun (h16 : ¬ (f_Mem_at ((((f_Sta_read (10 : Int32) sp) &&& (64512 : Int32)) + ((64 : Int32) * ((((p0 &&& (524287 : Int32)) ^^^ p1) &&& (f_Sta_read (10 : Int32) sp)) &&& (15 : Int32)))) + (24 : Int32)) w) = (((-2147483648 : Int32) + ((128 : Int32) * p0)) + (ush p1 (10 : Int32)))) => ?_) (fun (h16 : (f_Mem_at ((((f_Sta_read (10 : Int32) sp) &&& (64512 : Int32)) + ((64 : Int32) * ((((p0 &&& (524287 : Int32)) ^^^ p1) &&& (f_Sta_read (10 : Int32) sp)) &&& (15 : Int32)))) + (24 : Int32)) w) = (((-2147483648 : Int32) + ((128 : Int32) * p0)) + (ush p1 (10 : Int32)))) => ?_)
        · refine lv_iinc (v := (4 : Int32)) (lv' := [(6, .int (4 : Int32)), (9, .int ((((f_Sta_read (10 : Int32) sp) &&& (64512 : Int32)) + ((64 : Int32) * ((((p0 &&& (524287 : Int32)) ^^^ p1) &&& (f_Sta_read (10 : Int32) sp)) &&& (15 : Int32)))) + (24 : Int32))), (8, .int (((-2147483648 : Int32) + ((128 : Int32) * p0)) + (ush p1 (10 : Int32)))), (7, .int ((p0 &&& (524287 : Int32)) ^^^ p1)), (5, .int (f_Sta_read (10 : Int32) sp)), (4, .int (((-2147483648 : Int32) + ((128 : Int32) * p0)) + (ush p1 (10 : Int32)))), (3, .int ((p0 &&& (524287 : Int32)) ^^^ p1)), (0, .ref aQ), (1, .int p0), (2, .int p1)]) hx hb d_Map_findEntry_125 hl (k := 3) rfl (by decide) (by decide) rfl (fun ls hl => ?_)
          refine lv_goto (tgt := 36) hx hb d_Map_findEntry_128 (by decide) ?_
          refine lv_iload hx hb d_Map_findEntry_36 (lv_at hl 0 rfl) ?_
          refine lv_bipush (v := (16 : Int32)) hx hb d_Map_findEntry_38 (by decide) ?_
          refine lv_icmp_ge (tgt := 131) hx hb d_Map_findEntry_40 (by decide) (fun h17 => ?_) (fun h17 => ?_)
          · exact absurd h17 (by decide)
          refine lv_iload hx hb d_Map_findEntry_43 (lv_at hl 0 rfl) ?_
          refine lv_bipush (v := (8 : Int32)) hx hb d_Map_findEntry_45 (by decide) ?_
          refine lv_icmp_ge (tgt := 54) hx hb d_Map_findEntry_47 (by decide) (fun h18 => ?_) (fun h18 => ?_)
          · exact absurd h18 (by decide)
          refine lv_iload_n hx hb d_Map_findEntry_50 rfl (lv_at hl 6 rfl) ?_
          refine lv_goto (tgt := 57) hx hb d_Map_findEntry_51 (by decide) ?_
          refine lv_istore (lv' := [(7, .int ((p0 &&& (524287 : Int32)) ^^^ p1)), (6, .int (4 : Int32)), (9, .int ((((f_Sta_read (10 : Int32) sp) &&& (64512 : Int32)) + ((64 : Int32) * ((((p0 &&& (524287 : Int32)) ^^^ p1) &&& (f_Sta_read (10 : Int32) sp)) &&& (15 : Int32)))) + (24 : Int32))), (8, .int (((-2147483648 : Int32) + ((128 : Int32) * p0)) + (ush p1 (10 : Int32)))), (5, .int (f_Sta_read (10 : Int32) sp)), (4, .int (((-2147483648 : Int32) + ((128 : Int32) * p0)) + (ush p1 (10 : Int32)))), (3, .int ((p0 &&& (524287 : Int32)) ^^^ p1)), (0, .ref aQ), (1, .int p0), (2, .int p1)]) hx hb d_Map_findEntry_57 hl (by decide) rfl (fun ls hl => ?_)
          refine lv_iload hx hb d_Map_findEntry_59 (lv_at hl 1 rfl) ?_
          refine lv_bipush (v := (8 : Int32)) hx hb d_Map_findEntry_61 (by decide) ?_
          refine lv_icmp_ge (tgt := 71) hx hb d_Map_findEntry_63 (by decide) (fun h19 => ?_) (fun h19 => ?_)
          · exact absurd h19 (by decide)
          refine lv_iload hx hb d_Map_findEntry_66 (lv_at hl 5 rfl) ?_
          refine lv_goto (tgt := 76) hx hb d_Map_findEntry_68 (by decide) ?_
          refine lv_istore (lv' := [(8, .int (((-2147483648 : Int32) + ((128 : Int32) * p0)) + (ush p1 (10 : Int32)))), (7, .int ((p0 &&& (524287 : Int32)) ^^^ p1)), (6, .int (4 : Int32)), (9, .int ((((f_Sta_read (10 : Int32) sp) &&& (64512 : Int32)) + ((64 : Int32) * ((((p0 &&& (524287 : Int32)) ^^^ p1) &&& (f_Sta_read (10 : Int32) sp)) &&& (15 : Int32)))) + (24 : Int32))), (5, .int (f_Sta_read (10 : Int32) sp)), (4, .int (((-2147483648 : Int32) + ((128 : Int32) * p0)) + (ush p1 (10 : Int32)))), (3, .int ((p0 &&& (524287 : Int32)) ^^^ p1)), (0, .ref aQ), (1, .int p0), (2, .int p1)]) hx hb d_Map_findEntry_76 hl (by decide) rfl (fun ls hl => ?_)
          refine lv_iload hx hb d_Map_findEntry_78 (lv_at hl 4 rfl) ?_
          refine lv_ldc (v := (64512 : Int32)) hx hb hown (hB _ mw_337) d_Map_findEntry_80 ?_
          refine lv_iand hx hb d_Map_findEntry_82 ?_
          refine lv_bipush (v := (64 : Int32)) hx hb d_Map_findEntry_83 (by decide) ?_
          refine lv_iload hx hb d_Map_findEntry_85 (lv_at hl 1 rfl) ?_
          refine lv_iload hx hb d_Map_findEntry_87 (lv_at hl 4 rfl) ?_
          refine lv_iand hx hb d_Map_findEntry_89 ?_
          refine lv_bipush (v := (15 : Int32)) hx hb d_Map_findEntry_90 (by decide) ?_
          refine lv_iand hx hb d_Map_findEntry_92 ?_
          refine lv_imul hx hb d_Map_findEntry_93 ?_
          refine lv_iadd hx hb d_Map_findEntry_94 ?_
          refine lv_bipush (v := (8 : Int32)) hx hb d_Map_findEntry_95 (by decide) ?_
          refine lv_iload hx hb d_Map_findEntry_97 (lv_at hl 2 rfl) ?_
          refine lv_bipush (v := (7 : Int32)) hx hb d_Map_findEntry_99 (by decide) ?_
          refine lv_iand hx hb d_Map_findEntry_101 ?_
          refine k_fold (4 : Int32) (by decide) ?_
          refine lv_imul hx hb d_Map_findEntry_102 ?_
          refine k_fold (32 : Int32) (by decide) ?_
          refine lv_iadd hx hb d_Map_findEntry_103 ?_
          refine lv_istore (lv' := [(9, .int ((((f_Sta_read (10 : Int32) sp) &&& (64512 : Int32)) + ((64 : Int32) * ((((p0 &&& (524287 : Int32)) ^^^ p1) &&& (f_Sta_read (10 : Int32) sp)) &&& (15 : Int32)))) + (32 : Int32))), (8, .int (((-2147483648 : Int32) + ((128 : Int32) * p0)) + (ush p1 (10 : Int32)))), (7, .int ((p0 &&& (524287 : Int32)) ^^^ p1)), (6, .int (4 : Int32)), (5, .int (f_Sta_read (10 : Int32) sp)), (4, .int (((-2147483648 : Int32) + ((128 : Int32) * p0)) + (ush p1 (10 : Int32)))), (3, .int ((p0 &&& (524287 : Int32)) ^^^ p1)), (0, .ref aQ), (1, .int p0), (2, .int p1)]) hx hb d_Map_findEntry_104 hl (by decide) rfl (fun ls hl => ?_)
          refine lv_aload_n hx hb d_Map_findEntry_106 rfl (lv_at hl 7 rfl) ?_
          refine va_get (D := D) (ci := 7) (v := .ref aM) (C := "MappedProcessor$Mapper") (T := T_Map) (N := 3) hx hb hB iw_Map hown hK hP 5 rfl rfl 0 (by decide) (hB _ mw_64) (fun _ h9 => h9) rfl d_Map_findEntry_107 ?_
          refine lv_iload hx hb d_Map_findEntry_110 (lv_at hl 0 rfl) ?_
          refine k_cVi (As := [.int ((((f_Sta_read (10 : Int32) sp) &&& (64512 : Int32)) + ((64 : Int32) * ((((p0 &&& (524287 : Int32)) ^^^ p1) &&& (f_Sta_read (10 : Int32) sp)) &&& (15 : Int32)))) + (32 : Int32))]) (rest := []) (wr := [(aS, .inr (9, [.ref aG, .ref aX, .int nx, .int lt, .int sm, .int ex])), (aG, .inl (cG, 32, .inl g)), (aX, .inl (cX, 64, .inl sp)), (aQ, .inr (7, [.ref aM, .ref aS, .int en]))]) (wj := [(aM, .inr (8, [.ref aW])), (aW, .inl (cW, 16384, .inl w)), (aS, .inr (9, [.ref aG, .ref aX, .int nx, .int lt, .int sm, .int ex])), (aG, .inl (cG, 32, .inl g)), (aX, .inl (cX, 64, .inl sp)), (aQ, .inr (7, [.ref aM, .ref aS, .int en]))]) ⟨hx, hb, hml, hown, hB⟩ (c_Mem_at l D aM aW cW w ((((f_Sta_read (10 : Int32) sp) &&& (64512 : Int32)) + ((64 : Int32) * ((((p0 &&& (524287 : Int32)) ^^^ p1) &&& (f_Sta_read (10 : Int32) sp)) &&& (15 : Int32)))) + (32 : Int32))) yl_Mem_at mw_338 hK hN hP hD hS hA [0] [0, 1] [2, 3, 4, 5] [4, 5, 0, 1, 2, 3] rfl rfl rfl rfl (by decide +kernel) 0 rfl rfl rfl rfl hl.1 rfl (Nat.le_of_ble_eq_true rfl) ⟨Nat.le_of_ble_eq_true rfl, Nat.le_of_ble_eq_true rfl⟩ d_Map_findEntry_112 ⟨Nat.le_of_ble_eq_true rfl, Nat.le_of_ble_eq_true rfl⟩ (fun H locs hP hD hS => ?_)
          refine lv_iload hx hb d_Map_findEntry_115 (lv_at hl 1 rfl) ?_
          refine lv_icmp_ne (tgt := 125) hx hb d_Map_findEntry_117 (by decide) (fun (h20 : ¬ (f_Mem_at ((((f_Sta_read (10 : Int32) sp) &&& (64512 : Int32)) + ((64 : Int32) * ((((p0 &&& (524287 : Int32)) ^^^ p1) &&& (f_Sta_read (10 : Int32) sp)) &&& (15 : Int32)))) + (32 : Int32)) w) = (((-2147483648 : Int32) + ((128 : Int32) * p0)) + (ush p1 (10 : Int32)))) => ?_) (fun (h20 : (f_Mem_at ((((f_Sta_read (10 : Int32) sp) &&& (64512 : Int32)) + ((64 : Int32) * ((((p0 &&& (524287 : Int32)) ^^^ p1) &&& (f_Sta_read (10 : Int32) sp)) &&& (15 : Int32)))) + (32 : Int32)) w) = (((-2147483648 : Int32) + ((128 : Int32) * p0)) + (ush p1 (10 : Int32)))) => ?_)
          · refine lv_iinc (v := (5 : Int32)) (lv' := [(6, .int (5 : Int32)), (9, .int ((((f_Sta_read (10 : Int32) sp) &&& (64512 : Int32)) + ((64 : Int32) * ((((p0 &&& (524287 : Int32)) ^^^ p1) &&& (f_Sta_read (10 : Int32) sp)) &&& (15 : Int32)))) + (32 : Int32))), (8, .int (((-2147483648 : Int32) + ((128 : Int32) * p0)) + (ush p1 (10 : Int32)))), (7, .int ((p0 &&& (524287 : Int32)) ^^^ p1)), (5, .int (f_Sta_read (10 : Int32) sp)), (4, .int (((-2147483648 : Int32) + ((128 : Int32) * p0)) + (ush p1 (10 : Int32)))), (3, .int ((p0 &&& (524287 : Int32)) ^^^ p1)), (0, .ref aQ), (1, .int p0), (2, .int p1)]) hx hb d_Map_findEntry_125 hl (k := 3) rfl (by decide) (by decide) rfl (fun ls hl => ?_)
            refine lv_goto (tgt := 36) hx hb d_Map_findEntry_128 (by decide) ?_
            refine lv_iload hx hb d_Map_findEntry_36 (lv_at hl 0 rfl) ?_
            refine lv_bipush (v := (16 : Int32)) hx hb d_Map_findEntry_38 (by decide) ?_
            refine lv_icmp_ge (tgt := 131) hx hb d_Map_findEntry_40 (by decide) (fun h21 => ?_) (fun h21 => ?_)
            · exact absurd h21 (by decide)
            refine lv_iload hx hb d_Map_findEntry_43 (lv_at hl 0 rfl) ?_
            refine lv_bipush (v := (8 : Int32)) hx hb d_Map_findEntry_45 (by decide) ?_
            refine lv_icmp_ge (tgt := 54) hx hb d_Map_findEntry_47 (by decide) (fun h22 => ?_) (fun h22 => ?_)
            · exact absurd h22 (by decide)
            refine lv_iload_n hx hb d_Map_findEntry_50 rfl (lv_at hl 6 rfl) ?_
            refine lv_goto (tgt := 57) hx hb d_Map_findEntry_51 (by decide) ?_
            refine lv_istore (lv' := [(7, .int ((p0 &&& (524287 : Int32)) ^^^ p1)), (6, .int (5 : Int32)), (9, .int ((((f_Sta_read (10 : Int32) sp) &&& (64512 : Int32)) + ((64 : Int32) * ((((p0 &&& (524287 : Int32)) ^^^ p1) &&& (f_Sta_read (10 : Int32) sp)) &&& (15 : Int32)))) + (32 : Int32))), (8, .int (((-2147483648 : Int32) + ((128 : Int32) * p0)) + (ush p1 (10 : Int32)))), (5, .int (f_Sta_read (10 : Int32) sp)), (4, .int (((-2147483648 : Int32) + ((128 : Int32) * p0)) + (ush p1 (10 : Int32)))), (3, .int ((p0 &&& (524287 : Int32)) ^^^ p1)), (0, .ref aQ), (1, .int p0), (2, .int p1)]) hx hb d_Map_findEntry_57 hl (by decide) rfl (fun ls hl => ?_)
            refine lv_iload hx hb d_Map_findEntry_59 (lv_at hl 1 rfl) ?_
            refine lv_bipush (v := (8 : Int32)) hx hb d_Map_findEntry_61 (by decide) ?_
            refine lv_icmp_ge (tgt := 71) hx hb d_Map_findEntry_63 (by decide) (fun h23 => ?_) (fun h23 => ?_)
            · exact absurd h23 (by decide)
            refine lv_iload hx hb d_Map_findEntry_66 (lv_at hl 5 rfl) ?_
            refine lv_goto (tgt := 76) hx hb d_Map_findEntry_68 (by decide) ?_
            refine lv_istore (lv' := [(8, .int (((-2147483648 : Int32) + ((128 : Int32) * p0)) + (ush p1 (10 : Int32)))), (7, .int ((p0 &&& (524287 : Int32)) ^^^ p1)), (6, .int (5 : Int32)), (9, .int ((((f_Sta_read (10 : Int32) sp) &&& (64512 : Int32)) + ((64 : Int32) * ((((p0 &&& (524287 : Int32)) ^^^ p1) &&& (f_Sta_read (10 : Int32) sp)) &&& (15 : Int32)))) + (32 : Int32))), (5, .int (f_Sta_read (10 : Int32) sp)), (4, .int (((-2147483648 : Int32) + ((128 : Int32) * p0)) + (ush p1 (10 : Int32)))), (3, .int ((p0 &&& (524287 : Int32)) ^^^ p1)), (0, .ref aQ), (1, .int p0), (2, .int p1)]) hx hb d_Map_findEntry_76 hl (by decide) rfl (fun ls hl => ?_)
            refine lv_iload hx hb d_Map_findEntry_78 (lv_at hl 4 rfl) ?_
            refine lv_ldc (v := (64512 : Int32)) hx hb hown (hB _ mw_337) d_Map_findEntry_80 ?_
            refine lv_iand hx hb d_Map_findEntry_82 ?_
            refine lv_bipush (v := (64 : Int32)) hx hb d_Map_findEntry_83 (by decide) ?_
            refine lv_iload hx hb d_Map_findEntry_85 (lv_at hl 1 rfl) ?_
            refine lv_iload hx hb d_Map_findEntry_87 (lv_at hl 4 rfl) ?_
            refine lv_iand hx hb d_Map_findEntry_89 ?_
            refine lv_bipush (v := (15 : Int32)) hx hb d_Map_findEntry_90 (by decide) ?_
            refine lv_iand hx hb d_Map_findEntry_92 ?_
            refine lv_imul hx hb d_Map_findEntry_93 ?_
            refine lv_iadd hx hb d_Map_findEntry_94 ?_
            refine lv_bipush (v := (8 : Int32)) hx hb d_Map_findEntry_95 (by decide) ?_
            refine lv_iload hx hb d_Map_findEntry_97 (lv_at hl 2 rfl) ?_
            refine lv_bipush (v := (7 : Int32)) hx hb d_Map_findEntry_99 (by decide) ?_
            refine lv_iand hx hb d_Map_findEntry_101 ?_
            refine k_fold (5 : Int32) (by decide) ?_
            refine lv_imul hx hb d_Map_findEntry_102 ?_
            refine k_fold (40 : Int32) (by decide) ?_
            refine lv_iadd hx hb d_Map_findEntry_103 ?_
            refine lv_istore (lv' := [(9, .int ((((f_Sta_read (10 : Int32) sp) &&& (64512 : Int32)) + ((64 : Int32) * ((((p0 &&& (524287 : Int32)) ^^^ p1) &&& (f_Sta_read (10 : Int32) sp)) &&& (15 : Int32)))) + (40 : Int32))), (8, .int (((-2147483648 : Int32) + ((128 : Int32) * p0)) + (ush p1 (10 : Int32)))), (7, .int ((p0 &&& (524287 : Int32)) ^^^ p1)), (6, .int (5 : Int32)), (5, .int (f_Sta_read (10 : Int32) sp)), (4, .int (((-2147483648 : Int32) + ((128 : Int32) * p0)) + (ush p1 (10 : Int32)))), (3, .int ((p0 &&& (524287 : Int32)) ^^^ p1)), (0, .ref aQ), (1, .int p0), (2, .int p1)]) hx hb d_Map_findEntry_104 hl (by decide) rfl (fun ls hl => ?_)
            refine lv_aload_n hx hb d_Map_findEntry_106 rfl (lv_at hl 7 rfl) ?_
            refine va_get (D := D) (ci := 7) (v := .ref aM) (C := "MappedProcessor$Mapper") (T := T_Map) (N := 3) hx hb hB iw_Map hown hK hP 5 rfl rfl 0 (by decide) (hB _ mw_64) (fun _ h9 => h9) rfl d_Map_findEntry_107 ?_
            refine lv_iload hx hb d_Map_findEntry_110 (lv_at hl 0 rfl) ?_
            refine k_cVi (As := [.int ((((f_Sta_read (10 : Int32) sp) &&& (64512 : Int32)) + ((64 : Int32) * ((((p0 &&& (524287 : Int32)) ^^^ p1) &&& (f_Sta_read (10 : Int32) sp)) &&& (15 : Int32)))) + (40 : Int32))]) (rest := []) (wr := [(aS, .inr (9, [.ref aG, .ref aX, .int nx, .int lt, .int sm, .int ex])), (aG, .inl (cG, 32, .inl g)), (aX, .inl (cX, 64, .inl sp)), (aQ, .inr (7, [.ref aM, .ref aS, .int en]))]) (wj := [(aM, .inr (8, [.ref aW])), (aW, .inl (cW, 16384, .inl w)), (aS, .inr (9, [.ref aG, .ref aX, .int nx, .int lt, .int sm, .int ex])), (aG, .inl (cG, 32, .inl g)), (aX, .inl (cX, 64, .inl sp)), (aQ, .inr (7, [.ref aM, .ref aS, .int en]))]) ⟨hx, hb, hml, hown, hB⟩ (c_Mem_at l D aM aW cW w ((((f_Sta_read (10 : Int32) sp) &&& (64512 : Int32)) + ((64 : Int32) * ((((p0 &&& (524287 : Int32)) ^^^ p1) &&& (f_Sta_read (10 : Int32) sp)) &&& (15 : Int32)))) + (40 : Int32))) yl_Mem_at mw_338 hK hN hP hD hS hA [0] [0, 1] [2, 3, 4, 5] [4, 5, 0, 1, 2, 3] rfl rfl rfl rfl (by decide +kernel) 0 rfl rfl rfl rfl hl.1 rfl (Nat.le_of_ble_eq_true rfl) ⟨Nat.le_of_ble_eq_true rfl, Nat.le_of_ble_eq_true rfl⟩ d_Map_findEntry_112 ⟨Nat.le_of_ble_eq_true rfl, Nat.le_of_ble_eq_true rfl⟩ (fun H locs hP hD hS => ?_)
            refine lv_iload hx hb d_Map_findEntry_115 (lv_at hl 1 rfl) ?_
            refine lv_icmp_ne (tgt := 125) hx hb d_Map_findEntry_117 (by decide) (fun (h24 : ¬ (f_Mem_at ((((f_Sta_read (10 : Int32) sp) &&& (64512 : Int32)) + ((64 : Int32) * ((((p0 &&& (524287 : Int32)) ^^^ p1) &&& (f_Sta_read (10 : Int32) sp)) &&& (15 : Int32)))) + (40 : Int32)) w) = (((-2147483648 : Int32) + ((128 : Int32) * p0)) + (ush p1 (10 : Int32)))) => ?_) (fun (h24 : (f_Mem_at ((((f_Sta_read (10 : Int32) sp) &&& (64512 : Int32)) + ((64 : Int32) * ((((p0 &&& (524287 : Int32)) ^^^ p1) &&& (f_Sta_read (10 : Int32) sp)) &&& (15 : Int32)))) + (40 : Int32)) w) = (((-2147483648 : Int32) + ((128 : Int32) * p0)) + (ush p1 (10 : Int32)))) => ?_)
            · refine lv_iinc (v := (6 : Int32)) (lv' := [(6, .int (6 : Int32)), (9, .int ((((f_Sta_read (10 : Int32) sp) &&& (64512 : Int32)) + ((64 : Int32) * ((((p0 &&& (524287 : Int32)) ^^^ p1) &&& (f_Sta_read (10 : Int32) sp)) &&& (15 : Int32)))) + (40 : Int32))), (8, .int (((-2147483648 : Int32) + ((128 : Int32) * p0)) + (ush p1 (10 : Int32)))), (7, .int ((p0 &&& (524287 : Int32)) ^^^ p1)), (5, .int (f_Sta_read (10 : Int32) sp)), (4, .int (((-2147483648 : Int32) + ((128 : Int32) * p0)) + (ush p1 (10 : Int32)))), (3, .int ((p0 &&& (524287 : Int32)) ^^^ p1)), (0, .ref aQ), (1, .int p0), (2, .int p1)]) hx hb d_Map_findEntry_125 hl (k := 3) rfl (by decide) (by decide) rfl (fun ls hl => ?_)
              refine lv_goto (tgt := 36) hx hb d_Map_findEntry_128 (by decide) ?_
              refine lv_iload hx hb d_Map_findEntry_36 (lv_at hl 0 rfl) ?_
              refine lv_bipush (v := (16 : Int32)) hx hb d_Map_findEntry_38 (by decide) ?_
              refine lv_icmp_ge (tgt := 131) hx hb d_Map_findEntry_40 (by decide) (fun h25 => ?_) (fun h25 => ?_)
              · exact absurd h25 (by decide)
              refine lv_iload hx hb d_Map_findEntry_43 (lv_at hl 0 rfl) ?_
              refine lv_bipush (v := (8 : Int32)) hx hb d_Map_findEntry_45 (by decide) ?_
              refine lv_icmp_ge (tgt := 54) hx hb d_Map_findEntry_47 (by decide) (fun h26 => ?_) (fun h26 => ?_)
              · exact absurd h26 (by decide)
              refine lv_iload_n hx hb d_Map_findEntry_50 rfl (lv_at hl 6 rfl) ?_
              refine lv_goto (tgt := 57) hx hb d_Map_findEntry_51 (by decide) ?_
              refine lv_istore (lv' := [(7, .int ((p0 &&& (524287 : Int32)) ^^^ p1)), (6, .int (6 : Int32)), (9, .int ((((f_Sta_read (10 : Int32) sp) &&& (64512 : Int32)) + ((64 : Int32) * ((((p0 &&& (524287 : Int32)) ^^^ p1) &&& (f_Sta_read (10 : Int32) sp)) &&& (15 : Int32)))) + (40 : Int32))), (8, .int (((-2147483648 : Int32) + ((128 : Int32) * p0)) + (ush p1 (10 : Int32)))), (5, .int (f_Sta_read (10 : Int32) sp)), (4, .int (((-2147483648 : Int32) + ((128 : Int32) * p0)) + (ush p1 (10 : Int32)))), (3, .int ((p0 &&& (524287 : Int32)) ^^^ p1)), (0, .ref aQ), (1, .int p0), (2, .int p1)]) hx hb d_Map_findEntry_57 hl (by decide) rfl (fun ls hl => ?_)
              refine lv_iload hx hb d_Map_findEntry_59 (lv_at hl 1 rfl) ?_
              refine lv_bipush (v := (8 : Int32)) hx hb d_Map_findEntry_61 (by decide) ?_
              refine lv_icmp_ge (tgt := 71) hx hb d_Map_findEntry_63 (by decide) (fun h27 => ?_) (fun h27 => ?_)
              · exact absurd h27 (by decide)
              refine lv_iload hx hb d_Map_findEntry_66 (lv_at hl 5 rfl) ?_
              refine lv_goto (tgt := 76) hx hb d_Map_findEntry_68 (by decide) ?_
              refine lv_istore (lv' := [(8, .int (((-2147483648 : Int32) + ((128 : Int32) * p0)) + (ush p1 (10 : Int32)))), (7, .int ((p0 &&& (524287 : Int32)) ^^^ p1)), (6, .int (6 : Int32)), (9, .int ((((f_Sta_read (10 : Int32) sp) &&& (64512 : Int32)) + ((64 : Int32) * ((((p0 &&& (524287 : Int32)) ^^^ p1) &&& (f_Sta_read (10 : Int32) sp)) &&& (15 : Int32)))) + (40 : Int32))), (5, .int (f_Sta_read (10 : Int32) sp)), (4, .int (((-2147483648 : Int32) + ((128 : Int32) * p0)) + (ush p1 (10 : Int32)))), (3, .int ((p0 &&& (524287 : Int32)) ^^^ p1)), (0, .ref aQ), (1, .int p0), (2, .int p1)]) hx hb d_Map_findEntry_76 hl (by decide) rfl (fun ls hl => ?_)
              refine lv_iload hx hb d_Map_findEntry_78 (lv_at hl 4 rfl) ?_
              refine lv_ldc (v := (64512 : Int32)) hx hb hown (hB _ mw_337) d_Map_findEntry_80 ?_
              refine lv_iand hx hb d_Map_findEntry_82 ?_
              refine lv_bipush (v := (64 : Int32)) hx hb d_Map_findEntry_83 (by decide) ?_
              refine lv_iload hx hb d_Map_findEntry_85 (lv_at hl 1 rfl) ?_
              refine lv_iload hx hb d_Map_findEntry_87 (lv_at hl 4 rfl) ?_
              refine lv_iand hx hb d_Map_findEntry_89 ?_
              refine lv_bipush (v := (15 : Int32)) hx hb d_Map_findEntry_90 (by decide) ?_
              refine lv_iand hx hb d_Map_findEntry_92 ?_
              refine lv_imul hx hb d_Map_findEntry_93 ?_
              refine lv_iadd hx hb d_Map_findEntry_94 ?_
              refine lv_bipush (v := (8 : Int32)) hx hb d_Map_findEntry_95 (by decide) ?_
              refine lv_iload hx hb d_Map_findEntry_97 (lv_at hl 2 rfl) ?_
              refine lv_bipush (v := (7 : Int32)) hx hb d_Map_findEntry_99 (by decide) ?_
              refine lv_iand hx hb d_Map_findEntry_101 ?_
              refine k_fold (6 : Int32) (by decide) ?_
              refine lv_imul hx hb d_Map_findEntry_102 ?_
              refine k_fold (48 : Int32) (by decide) ?_
              refine lv_iadd hx hb d_Map_findEntry_103 ?_
              refine lv_istore (lv' := [(9, .int ((((f_Sta_read (10 : Int32) sp) &&& (64512 : Int32)) + ((64 : Int32) * ((((p0 &&& (524287 : Int32)) ^^^ p1) &&& (f_Sta_read (10 : Int32) sp)) &&& (15 : Int32)))) + (48 : Int32))), (8, .int (((-2147483648 : Int32) + ((128 : Int32) * p0)) + (ush p1 (10 : Int32)))), (7, .int ((p0 &&& (524287 : Int32)) ^^^ p1)), (6, .int (6 : Int32)), (5, .int (f_Sta_read (10 : Int32) sp)), (4, .int (((-2147483648 : Int32) + ((128 : Int32) * p0)) + (ush p1 (10 : Int32)))), (3, .int ((p0 &&& (524287 : Int32)) ^^^ p1)), (0, .ref aQ), (1, .int p0), (2, .int p1)]) hx hb d_Map_findEntry_104 hl (by decide) rfl (fun ls hl => ?_)
              refine lv_aload_n hx hb d_Map_findEntry_106 rfl (lv_at hl 7 rfl) ?_
              refine va_get (D := D) (ci := 7) (v := .ref aM) (C := "MappedProcessor$Mapper") (T := T_Map) (N := 3) hx hb hB iw_Map hown hK hP 5 rfl rfl 0 (by decide) (hB _ mw_64) (fun _ h9 => h9) rfl d_Map_findEntry_107 ?_
              refine lv_iload hx hb d_Map_findEntry_110 (lv_at hl 0 rfl) ?_
              refine k_cVi (As := [.int ((((f_Sta_read (10 : Int32) sp) &&& (64512 : Int32)) + ((64 : Int32) * ((((p0 &&& (524287 : Int32)) ^^^ p1) &&& (f_Sta_read (10 : Int32) sp)) &&& (15 : Int32)))) + (48 : Int32))]) (rest := []) (wr := [(aS, .inr (9, [.ref aG, .ref aX, .int nx, .int lt, .int sm, .int ex])), (aG, .inl (cG, 32, .inl g)), (aX, .inl (cX, 64, .inl sp)), (aQ, .inr (7, [.ref aM, .ref aS, .int en]))]) (wj := [(aM, .inr (8, [.ref aW])), (aW, .inl (cW, 16384, .inl w)), (aS, .inr (9, [.ref aG, .ref aX, .int nx, .int lt, .int sm, .int ex])), (aG, .inl (cG, 32, .inl g)), (aX, .inl (cX, 64, .inl sp)), (aQ, .inr (7, [.ref aM, .ref aS, .int en]))]) ⟨hx, hb, hml, hown, hB⟩ (c_Mem_at l D aM aW cW w ((((f_Sta_read (10 : Int32) sp) &&& (64512 : Int32)) + ((64 : Int32) * ((((p0 &&& (524287 : Int32)) ^^^ p1) &&& (f_Sta_read (10 : Int32) sp)) &&& (15 : Int32)))) + (48 : Int32))) yl_Mem_at mw_338 hK hN hP hD hS hA [0] [0, 1] [2, 3, 4, 5] [4, 5, 0, 1, 2, 3] rfl rfl rfl rfl (by decide +kernel) 0 rfl rfl rfl rfl hl.1 rfl (Nat.le_of_ble_eq_true rfl) ⟨Nat.le_of_ble_eq_true rfl, Nat.le_of_ble_eq_true rfl⟩ d_Map_findEntry_112 ⟨Nat.le_of_ble_eq_true rfl, Nat.le_of_ble_eq_true rfl⟩ (fun H locs hP hD hS => ?_)
              refine lv_iload hx hb d_Map_findEntry_115 (lv_at hl 1 rfl) ?_
              refine lv_icmp_ne (tgt := 125) hx hb d_Map_findEntry_117 (by decide) (fun (h28 : ¬ (f_Mem_at ((((f_Sta_read (10 : Int32) sp) &&& (64512 : Int32)) + ((64 : Int32) * ((((p0 &&& (524287 : Int32)) ^^^ p1) &&& (f_Sta_read (10 : Int32) sp)) &&& (15 : Int32)))) + (48 : Int32)) w) = (((-2147483648 : Int32) + ((128 : Int32) * p0)) + (ush p1 (10 : Int32)))) => ?_) (fun (h28 : (f_Mem_at ((((f_Sta_read (10 : Int32) sp) &&& (64512 : Int32)) + ((64 : Int32) * ((((p0 &&& (524287 : Int32)) ^^^ p1) &&& (f_Sta_read (10 : Int32) sp)) &&& (15 : Int32)))) + (48 : Int32)) w) = (((-2147483648 : Int32) + ((128 : Int32) * p0)) + (ush p1 (10 : Int32)))) => ?_)
              · refine lv_iinc (v := (7 : Int32)) (lv' := [(6, .int (7 : Int32)), (9, .int ((((f_Sta_read (10 : Int32) sp) &&& (64512 : Int32)) + ((64 : Int32) * ((((p0 &&& (524287 : Int32)) ^^^ p1) &&& (f_Sta_read (10 : Int32) sp)) &&& (15 : Int32)))) + (48 : Int32))), (8, .int (((-2147483648 : Int32) + ((128 : Int32) * p0)) + (ush p1 (10 : Int32)))), (7, .int ((p0 &&& (524287 : Int32)) ^^^ p1)), (5, .int (f_Sta_read (10 : Int32) sp)), (4, .int (((-2147483648 : Int32) + ((128 : Int32) * p0)) + (ush p1 (10 : Int32)))), (3, .int ((p0 &&& (524287 : Int32)) ^^^ p1)), (0, .ref aQ), (1, .int p0), (2, .int p1)]) hx hb d_Map_findEntry_125 hl (k := 3) rfl (by decide) (by decide) rfl (fun ls hl => ?_)
                refine lv_goto (tgt := 36) hx hb d_Map_findEntry_128 (by decide) ?_
                refine lv_iload hx hb d_Map_findEntry_36 (lv_at hl 0 rfl) ?_
                refine lv_bipush (v := (16 : Int32)) hx hb d_Map_findEntry_38 (by decide) ?_
                refine lv_icmp_ge (tgt := 131) hx hb d_Map_findEntry_40 (by decide) (fun h29 => ?_) (fun h29 => ?_)
                · exact absurd h29 (by decide)
                refine lv_iload hx hb d_Map_findEntry_43 (lv_at hl 0 rfl) ?_
                refine lv_bipush (v := (8 : Int32)) hx hb d_Map_findEntry_45 (by decide) ?_
                refine lv_icmp_ge (tgt := 54) hx hb d_Map_findEntry_47 (by decide) (fun h30 => ?_) (fun h30 => ?_)
                · exact absurd h30 (by decide)
                refine lv_iload_n hx hb d_Map_findEntry_50 rfl (lv_at hl 6 rfl) ?_
                refine lv_goto (tgt := 57) hx hb d_Map_findEntry_51 (by decide) ?_
                refine lv_istore (lv' := [(7, .int ((p0 &&& (524287 : Int32)) ^^^ p1)), (6, .int (7 : Int32)), (9, .int ((((f_Sta_read (10 : Int32) sp) &&& (64512 : Int32)) + ((64 : Int32) * ((((p0 &&& (524287 : Int32)) ^^^ p1) &&& (f_Sta_read (10 : Int32) sp)) &&& (15 : Int32)))) + (48 : Int32))), (8, .int (((-2147483648 : Int32) + ((128 : Int32) * p0)) + (ush p1 (10 : Int32)))), (5, .int (f_Sta_read (10 : Int32) sp)), (4, .int (((-2147483648 : Int32) + ((128 : Int32) * p0)) + (ush p1 (10 : Int32)))), (3, .int ((p0 &&& (524287 : Int32)) ^^^ p1)), (0, .ref aQ), (1, .int p0), (2, .int p1)]) hx hb d_Map_findEntry_57 hl (by decide) rfl (fun ls hl => ?_)
                refine lv_iload hx hb d_Map_findEntry_59 (lv_at hl 1 rfl) ?_
                refine lv_bipush (v := (8 : Int32)) hx hb d_Map_findEntry_61 (by decide) ?_
                refine lv_icmp_ge (tgt := 71) hx hb d_Map_findEntry_63 (by decide) (fun h31 => ?_) (fun h31 => ?_)
                · exact absurd h31 (by decide)
                refine lv_iload hx hb d_Map_findEntry_66 (lv_at hl 5 rfl) ?_
                refine lv_goto (tgt := 76) hx hb d_Map_findEntry_68 (by decide) ?_
                refine lv_istore (lv' := [(8, .int (((-2147483648 : Int32) + ((128 : Int32) * p0)) + (ush p1 (10 : Int32)))), (7, .int ((p0 &&& (524287 : Int32)) ^^^ p1)), (6, .int (7 : Int32)), (9, .int ((((f_Sta_read (10 : Int32) sp) &&& (64512 : Int32)) + ((64 : Int32) * ((((p0 &&& (524287 : Int32)) ^^^ p1) &&& (f_Sta_read (10 : Int32) sp)) &&& (15 : Int32)))) + (48 : Int32))), (5, .int (f_Sta_read (10 : Int32) sp)), (4, .int (((-2147483648 : Int32) + ((128 : Int32) * p0)) + (ush p1 (10 : Int32)))), (3, .int ((p0 &&& (524287 : Int32)) ^^^ p1)), (0, .ref aQ), (1, .int p0), (2, .int p1)]) hx hb d_Map_findEntry_76 hl (by decide) rfl (fun ls hl => ?_)
                refine lv_iload hx hb d_Map_findEntry_78 (lv_at hl 4 rfl) ?_
                refine lv_ldc (v := (64512 : Int32)) hx hb hown (hB _ mw_337) d_Map_findEntry_80 ?_
                refine lv_iand hx hb d_Map_findEntry_82 ?_
                refine lv_bipush (v := (64 : Int32)) hx hb d_Map_findEntry_83 (by decide) ?_
                refine lv_iload hx hb d_Map_findEntry_85 (lv_at hl 1 rfl) ?_
                refine lv_iload hx hb d_Map_findEntry_87 (lv_at hl 4 rfl) ?_
                refine lv_iand hx hb d_Map_findEntry_89 ?_
                refine lv_bipush (v := (15 : Int32)) hx hb d_Map_findEntry_90 (by decide) ?_
                refine lv_iand hx hb d_Map_findEntry_92 ?_
                refine lv_imul hx hb d_Map_findEntry_93 ?_
                refine lv_iadd hx hb d_Map_findEntry_94 ?_
                refine lv_bipush (v := (8 : Int32)) hx hb d_Map_findEntry_95 (by decide) ?_
                refine lv_iload hx hb d_Map_findEntry_97 (lv_at hl 2 rfl) ?_
                refine lv_bipush (v := (7 : Int32)) hx hb d_Map_findEntry_99 (by decide) ?_
                refine lv_iand hx hb d_Map_findEntry_101 ?_
                refine k_fold (7 : Int32) (by decide) ?_
                refine lv_imul hx hb d_Map_findEntry_102 ?_
                refine k_fold (56 : Int32) (by decide) ?_
                refine lv_iadd hx hb d_Map_findEntry_103 ?_
                refine lv_istore (lv' := [(9, .int ((((f_Sta_read (10 : Int32) sp) &&& (64512 : Int32)) + ((64 : Int32) * ((((p0 &&& (524287 : Int32)) ^^^ p1) &&& (f_Sta_read (10 : Int32) sp)) &&& (15 : Int32)))) + (56 : Int32))), (8, .int (((-2147483648 : Int32) + ((128 : Int32) * p0)) + (ush p1 (10 : Int32)))), (7, .int ((p0 &&& (524287 : Int32)) ^^^ p1)), (6, .int (7 : Int32)), (5, .int (f_Sta_read (10 : Int32) sp)), (4, .int (((-2147483648 : Int32) + ((128 : Int32) * p0)) + (ush p1 (10 : Int32)))), (3, .int ((p0 &&& (524287 : Int32)) ^^^ p1)), (0, .ref aQ), (1, .int p0), (2, .int p1)]) hx hb d_Map_findEntry_104 hl (by decide) rfl (fun ls hl => ?_)
                refine lv_aload_n hx hb d_Map_findEntry_106 rfl (lv_at hl 7 rfl) ?_
                refine va_get (D := D) (ci := 7) (v := .ref aM) (C := "MappedProcessor$Mapper") (T := T_Map) (N := 3) hx hb hB iw_Map hown hK hP 5 rfl rfl 0 (by decide) (hB _ mw_64) (fun _ h9 => h9) rfl d_Map_findEntry_107 ?_
                refine lv_iload hx hb d_Map_findEntry_110 (lv_at hl 0 rfl) ?_
                refine k_cVi (As := [.int ((((f_Sta_read (10 : Int32) sp) &&& (64512 : Int32)) + ((64 : Int32) * ((((p0 &&& (524287 : Int32)) ^^^ p1) &&& (f_Sta_read (10 : Int32) sp)) &&& (15 : Int32)))) + (56 : Int32))]) (rest := []) (wr := [(aS, .inr (9, [.ref aG, .ref aX, .int nx, .int lt, .int sm, .int ex])), (aG, .inl (cG, 32, .inl g)), (aX, .inl (cX, 64, .inl sp)), (aQ, .inr (7, [.ref aM, .ref aS, .int en]))]) (wj := [(aM, .inr (8, [.ref aW])), (aW, .inl (cW, 16384, .inl w)), (aS, .inr (9, [.ref aG, .ref aX, .int nx, .int lt, .int sm, .int ex])), (aG, .inl (cG, 32, .inl g)), (aX, .inl (cX, 64, .inl sp)), (aQ, .inr (7, [.ref aM, .ref aS, .int en]))]) ⟨hx, hb, hml, hown, hB⟩ (c_Mem_at l D aM aW cW w ((((f_Sta_read (10 : Int32) sp) &&& (64512 : Int32)) + ((64 : Int32) * ((((p0 &&& (524287 : Int32)) ^^^ p1) &&& (f_Sta_read (10 : Int32) sp)) &&& (15 : Int32)))) + (56 : Int32))) yl_Mem_at mw_338 hK hN hP hD hS hA [0] [0, 1] [2, 3, 4, 5] [4, 5, 0, 1, 2, 3] rfl rfl rfl rfl (by decide +kernel) 0 rfl rfl rfl rfl hl.1 rfl (Nat.le_of_ble_eq_true rfl) ⟨Nat.le_of_ble_eq_true rfl, Nat.le_of_ble_eq_true rfl⟩ d_Map_findEntry_112 ⟨Nat.le_of_ble_eq_true rfl, Nat.le_of_ble_eq_true rfl⟩ (fun H locs hP hD hS => ?_)
                refine lv_iload hx hb d_Map_findEntry_115 (lv_at hl 1 rfl) ?_
                refine lv_icmp_ne (tgt := 125) hx hb d_Map_findEntry_117 (by decide) (fun (h32 : ¬ (f_Mem_at ((((f_Sta_read (10 : Int32) sp) &&& (64512 : Int32)) + ((64 : Int32) * ((((p0 &&& (524287 : Int32)) ^^^ p1) &&& (f_Sta_read (10 : Int32) sp)) &&& (15 : Int32)))) + (56 : Int32)) w) = (((-2147483648 : Int32) + ((128 : Int32) * p0)) + (ush p1 (10 : Int32)))) => ?_) (fun (h32 : (f_Mem_at ((((f_Sta_read (10 : Int32) sp) &&& (64512 : Int32)) + ((64 : Int32) * ((((p0 &&& (524287 : Int32)) ^^^ p1) &&& (f_Sta_read (10 : Int32) sp)) &&& (15 : Int32)))) + (56 : Int32)) w) = (((-2147483648 : Int32) + ((128 : Int32) * p0)) + (ush p1 (10 : Int32)))) => ?_)
                · refine lv_iinc (v := (8 : Int32)) (lv' := [(6, .int (8 : Int32)), (9, .int ((((f_Sta_read (10 : Int32) sp) &&& (64512 : Int32)) + ((64 : Int32) * ((((p0 &&& (524287 : Int32)) ^^^ p1) &&& (f_Sta_read (10 : Int32) sp)) &&& (15 : Int32)))) + (56 : Int32))), (8, .int (((-2147483648 : Int32) + ((128 : Int32) * p0)) + (ush p1 (10 : Int32)))), (7, .int ((p0 &&& (524287 : Int32)) ^^^ p1)), (5, .int (f_Sta_read (10 : Int32) sp)), (4, .int (((-2147483648 : Int32) + ((128 : Int32) * p0)) + (ush p1 (10 : Int32)))), (3, .int ((p0 &&& (524287 : Int32)) ^^^ p1)), (0, .ref aQ), (1, .int p0), (2, .int p1)]) hx hb d_Map_findEntry_125 hl (k := 3) rfl (by decide) (by decide) rfl (fun ls hl => ?_)
                  refine lv_goto (tgt := 36) hx hb d_Map_findEntry_128 (by decide) ?_
                  refine lv_iload hx hb d_Map_findEntry_36 (lv_at hl 0 rfl) ?_
                  refine lv_bipush (v := (16 : Int32)) hx hb d_Map_findEntry_38 (by decide) ?_
                  refine lv_icmp_ge (tgt := 131) hx hb d_Map_findEntry_40 (by decide) (fun h33 => ?_) (fun h33 => ?_)
                  · exact absurd h33 (by decide)
                  refine lv_iload hx hb d_Map_findEntry_43 (lv_at hl 0 rfl) ?_
                  refine lv_bipush (v := (8 : Int32)) hx hb d_Map_findEntry_45 (by decide) ?_
                  refine lv_icmp_ge (tgt := 54) hx hb d_Map_findEntry_47 (by decide) (fun h34 => ?_) (fun h34 => ?_)
                  rotate_left
                  · exact absurd (by decide) h34
                  refine lv_iload_n hx hb d_Map_findEntry_54 rfl (lv_at hl 6 rfl) ?_
                  refine lv_iconst (v := (-1 : Int32)) hx hb d_Map_findEntry_55 (by decide) ?_
                  refine lv_ixor hx hb d_Map_findEntry_56 ?_
                  refine lv_istore (lv' := [(7, .int (((p0 &&& (524287 : Int32)) ^^^ p1) ^^^ (-1 : Int32))), (6, .int (8 : Int32)), (9, .int ((((f_Sta_read (10 : Int32) sp) &&& (64512 : Int32)) + ((64 : Int32) * ((((p0 &&& (524287 : Int32)) ^^^ p1) &&& (f_Sta_read (10 : Int32) sp)) &&& (15 : Int32)))) + (56 : Int32))), (8, .int (((-2147483648 : Int32) + ((128 : Int32) * p0)) + (ush p1 (10 : Int32)))), (5, .int (f_Sta_read (10 : Int32) sp)), (4, .int (((-2147483648 : Int32) + ((128 : Int32) * p0)) + (ush p1 (10 : Int32)))), (3, .int ((p0 &&& (524287 : Int32)) ^^^ p1)), (0, .ref aQ), (1, .int p0), (2, .int p1)]) hx hb d_Map_findEntry_57 hl (by decide) rfl (fun ls hl => ?_)
                  refine lv_iload hx hb d_Map_findEntry_59 (lv_at hl 1 rfl) ?_
                  refine lv_bipush (v := (8 : Int32)) hx hb d_Map_findEntry_61 (by decide) ?_
                  refine lv_icmp_ge (tgt := 71) hx hb d_Map_findEntry_63 (by decide) (fun h35 => ?_) (fun h35 => ?_)
                  rotate_left
                  · exact absurd (by decide) h35
                  refine lv_iload hx hb d_Map_findEntry_71 (lv_at hl 5 rfl) ?_
                  refine lv_bipush (v := (64 : Int32)) hx hb d_Map_findEntry_73 (by decide) ?_
                  refine lv_iadd hx hb d_Map_findEntry_75 ?_
                  refine lv_istore (lv' := [(8, .int ((((-2147483648 : Int32) + ((128 : Int32) * p0)) + (ush p1 (10 : Int32))) + (64 : Int32))), (7, .int (((p0 &&& (524287 : Int32)) ^^^ p1) ^^^ (-1 : Int32))), (6, .int (8 : Int32)), (9, .int ((((f_Sta_read (10 : Int32) sp) &&& (64512 : Int32)) + ((64 : Int32) * ((((p0 &&& (524287 : Int32)) ^^^ p1) &&& (f_Sta_read (10 : Int32) sp)) &&& (15 : Int32)))) + (56 : Int32))), (5, .int (f_Sta_read (10 : Int32) sp)), (4, .int (((-2147483648 : Int32) + ((128 : Int32) * p0)) + (ush p1 (10 : Int32)))), (3, .int ((p0 &&& (524287 : Int32)) ^^^ p1)), (0, .ref aQ), (1, .int p0), (2, .int p1)]) hx hb d_Map_findEntry_76 hl (by decide) rfl (fun ls hl => ?_)
                  refine lv_iload hx hb d_Map_findEntry_78 (lv_at hl 4 rfl) ?_
                  refine lv_ldc (v := (64512 : Int32)) hx hb hown (hB _ mw_337) d_Map_findEntry_80 ?_
                  refine lv_iand hx hb d_Map_findEntry_82 ?_
                  refine lv_bipush (v := (64 : Int32)) hx hb d_Map_findEntry_83 (by decide) ?_
                  refine lv_iload hx hb d_Map_findEntry_85 (lv_at hl 1 rfl) ?_
                  refine lv_iload hx hb d_Map_findEntry_87 (lv_at hl 4 rfl) ?_
                  refine lv_iand hx hb d_Map_findEntry_89 ?_
                  refine lv_bipush (v := (15 : Int32)) hx hb d_Map_findEntry_90 (by decide) ?_
                  refine lv_iand hx hb d_Map_findEntry_92 ?_
                  refine lv_imul hx hb d_Map_findEntry_93 ?_
                  refine lv_iadd hx hb d_Map_findEntry_94 ?_
                  refine lv_bipush (v := (8 : Int32)) hx hb d_Map_findEntry_95 (by decide) ?_
                  refine lv_iload hx hb d_Map_findEntry_97 (lv_at hl 2 rfl) ?_
                  refine lv_bipush (v := (7 : Int32)) hx hb d_Map_findEntry_99 (by decide) ?_
                  refine lv_iand hx hb d_Map_findEntry_101 ?_
                  refine k_fold (0 : Int32) (by decide) ?_
                  refine lv_imul hx hb d_Map_findEntry_102 ?_
                  refine k_fold (0 : Int32) (by decide) ?_
                  refine lv_iadd hx hb d_Map_findEntry_103 ?_
                  refine lv_istore (lv' := [(9, .int ((((f_Sta_read (10 : Int32) sp) &&& (64512 : Int32)) + ((64 : Int32) * (((((p0 &&& (524287 : Int32)) ^^^ p1) ^^^ (-1 : Int32)) &&& (f_Sta_read (10 : Int32) sp)) &&& (15 : Int32)))) + (0 : Int32))), (8, .int ((((-2147483648 : Int32) + ((128 : Int32) * p0)) + (ush p1 (10 : Int32))) + (64 : Int32))), (7, .int (((p0 &&& (524287 : Int32)) ^^^ p1) ^^^ (-1 : Int32))), (6, .int (8 : Int32)), (5, .int (f_Sta_read (10 : Int32) sp)), (4, .int (((-2147483648 : Int32) + ((128 : Int32) * p0)) + (ush p1 (10 : Int32)))), (3, .int ((p0 &&& (524287 : Int32)) ^^^ p1)), (0, .ref aQ), (1, .int p0), (2, .int p1)]) hx hb d_Map_findEntry_104 hl (by decide) rfl (fun ls hl => ?_)
                  refine lv_aload_n hx hb d_Map_findEntry_106 rfl (lv_at hl 7 rfl) ?_
                  refine va_get (D := D) (ci := 7) (v := .ref aM) (C := "MappedProcessor$Mapper") (T := T_Map) (N := 3) hx hb hB iw_Map hown hK hP 5 rfl rfl 0 (by decide) (hB _ mw_64) (fun _ h9 => h9) rfl d_Map_findEntry_107 ?_
                  refine lv_iload hx hb d_Map_findEntry_110 (lv_at hl 0 rfl) ?_
                  refine k_cVi (As := [.int ((((f_Sta_read (10 : Int32) sp) &&& (64512 : Int32)) + ((64 : Int32) * (((((p0 &&& (524287 : Int32)) ^^^ p1) ^^^ (-1 : Int32)) &&& (f_Sta_read (10 : Int32) sp)) &&& (15 : Int32)))) + (0 : Int32))]) (rest := []) (wr := [(aS, .inr (9, [.ref aG, .ref aX, .int nx, .int lt, .int sm, .int ex])), (aG, .inl (cG, 32, .inl g)), (aX, .inl (cX, 64, .inl sp)), (aQ, .inr (7, [.ref aM, .ref aS, .int en]))]) (wj := [(aM, .inr (8, [.ref aW])), (aW, .inl (cW, 16384, .inl w)), (aS, .inr (9, [.ref aG, .ref aX, .int nx, .int lt, .int sm, .int ex])), (aG, .inl (cG, 32, .inl g)), (aX, .inl (cX, 64, .inl sp)), (aQ, .inr (7, [.ref aM, .ref aS, .int en]))]) ⟨hx, hb, hml, hown, hB⟩ (c_Mem_at l D aM aW cW w ((((f_Sta_read (10 : Int32) sp) &&& (64512 : Int32)) + ((64 : Int32) * (((((p0 &&& (524287 : Int32)) ^^^ p1) ^^^ (-1 : Int32)) &&& (f_Sta_read (10 : Int32) sp)) &&& (15 : Int32)))) + (0 : Int32))) yl_Mem_at mw_338 hK hN hP hD hS hA [0] [0, 1] [2, 3, 4, 5] [4, 5, 0, 1, 2, 3] rfl rfl rfl rfl (by decide +kernel) 0 rfl rfl rfl rfl hl.1 rfl (Nat.le_of_ble_eq_true rfl) ⟨Nat.le_of_ble_eq_true rfl, Nat.le_of_ble_eq_true rfl⟩ d_Map_findEntry_112 ⟨Nat.le_of_ble_eq_true rfl, Nat.le_of_ble_eq_true rfl⟩ (fun H locs hP hD hS => ?_)
                  refine lv_iload hx hb d_Map_findEntry_115 (lv_at hl 1 rfl) ?_
                  refine lv_icmp_ne (tgt := 125) hx hb d_Map_findEntry_117 (by decide) (fun (h36 : ¬ (f_Mem_at ((((f_Sta_read (10 : Int32) sp) &&& (64512 : Int32)) + ((64 : Int32) * (((((p0 &&& (524287 : Int32)) ^^^ p1) ^^^ (-1 : Int32)) &&& (f_Sta_read (10 : Int32) sp)) &&& (15 : Int32)))) + (0 : Int32)) w) = ((((-2147483648 : Int32) + ((128 : Int32) * p0)) + (ush p1 (10 : Int32))) + (64 : Int32))) => ?_) (fun (h36 : (f_Mem_at ((((f_Sta_read (10 : Int32) sp) &&& (64512 : Int32)) + ((64 : Int32) * (((((p0 &&& (524287 : Int32)) ^^^ p1) ^^^ (-1 : Int32)) &&& (f_Sta_read (10 : Int32) sp)) &&& (15 : Int32)))) + (0 : Int32)) w) = ((((-2147483648 : Int32) + ((128 : Int32) * p0)) + (ush p1 (10 : Int32))) + (64 : Int32))) => ?_)
                  · refine lv_iinc (v := (9 : Int32)) (lv' := [(6, .int (9 : Int32)), (9, .int ((((f_Sta_read (10 : Int32) sp) &&& (64512 : Int32)) + ((64 : Int32) * (((((p0 &&& (524287 : Int32)) ^^^ p1) ^^^ (-1 : Int32)) &&& (f_Sta_read (10 : Int32) sp)) &&& (15 : Int32)))) + (0 : Int32))), (8, .int ((((-2147483648 : Int32) + ((128 : Int32) * p0)) + (ush p1 (10 : Int32))) + (64 : Int32))), (7, .int (((p0 &&& (524287 : Int32)) ^^^ p1) ^^^ (-1 : Int32))), (5, .int (f_Sta_read (10 : Int32) sp)), (4, .int (((-2147483648 : Int32) + ((128 : Int32) * p0)) + (ush p1 (10 : Int32)))), (3, .int ((p0 &&& (524287 : Int32)) ^^^ p1)), (0, .ref aQ), (1, .int p0), (2, .int p1)]) hx hb d_Map_findEntry_125 hl (k := 3) rfl (by decide) (by decide) rfl (fun ls hl => ?_)
                    refine lv_goto (tgt := 36) hx hb d_Map_findEntry_128 (by decide) ?_
                    refine lv_iload hx hb d_Map_findEntry_36 (lv_at hl 0 rfl) ?_
                    refine lv_bipush (v := (16 : Int32)) hx hb d_Map_findEntry_38 (by decide) ?_
                    refine lv_icmp_ge (tgt := 131) hx hb d_Map_findEntry_40 (by decide) (fun h37 => ?_) (fun h37 => ?_)
                    · exact absurd h37 (by decide)
                    refine lv_iload hx hb d_Map_findEntry_43 (lv_at hl 0 rfl) ?_
                    refine lv_bipush (v := (8 : Int32)) hx hb d_Map_findEntry_45 (by decide) ?_
                    refine lv_icmp_ge (tgt := 54) hx hb d_Map_findEntry_47 (by decide) (fun h38 => ?_) (fun h38 => ?_)
                    rotate_left
                    · exact absurd (by decide) h38
                    refine lv_iload_n hx hb d_Map_findEntry_54 rfl (lv_at hl 6 rfl) ?_
                    refine lv_iconst (v := (-1 : Int32)) hx hb d_Map_findEntry_55 (by decide) ?_
                    refine lv_ixor hx hb d_Map_findEntry_56 ?_
                    refine lv_istore (lv' := [(7, .int (((p0 &&& (524287 : Int32)) ^^^ p1) ^^^ (-1 : Int32))), (6, .int (9 : Int32)), (9, .int ((((f_Sta_read (10 : Int32) sp) &&& (64512 : Int32)) + ((64 : Int32) * (((((p0 &&& (524287 : Int32)) ^^^ p1) ^^^ (-1 : Int32)) &&& (f_Sta_read (10 : Int32) sp)) &&& (15 : Int32)))) + (0 : Int32))), (8, .int ((((-2147483648 : Int32) + ((128 : Int32) * p0)) + (ush p1 (10 : Int32))) + (64 : Int32))), (5, .int (f_Sta_read (10 : Int32) sp)), (4, .int (((-2147483648 : Int32) + ((128 : Int32) * p0)) + (ush p1 (10 : Int32)))), (3, .int ((p0 &&& (524287 : Int32)) ^^^ p1)), (0, .ref aQ), (1, .int p0), (2, .int p1)]) hx hb d_Map_findEntry_57 hl (by decide) rfl (fun ls hl => ?_)
                    refine lv_iload hx hb d_Map_findEntry_59 (lv_at hl 1 rfl) ?_
                    refine lv_bipush (v := (8 : Int32)) hx hb d_Map_findEntry_61 (by decide) ?_
                    refine lv_icmp_ge (tgt := 71) hx hb d_Map_findEntry_63 (by decide) (fun h39 => ?_) (fun h39 => ?_)
                    rotate_left
                    · exact absurd (by decide) h39
                    refine lv_iload hx hb d_Map_findEntry_71 (lv_at hl 5 rfl) ?_
                    refine lv_bipush (v := (64 : Int32)) hx hb d_Map_findEntry_73 (by decide) ?_
                    refine lv_iadd hx hb d_Map_findEntry_75 ?_
                    refine lv_istore (lv' := [(8, .int ((((-2147483648 : Int32) + ((128 : Int32) * p0)) + (ush p1 (10 : Int32))) + (64 : Int32))), (7, .int (((p0 &&& (524287 : Int32)) ^^^ p1) ^^^ (-1 : Int32))), (6, .int (9 : Int32)), (9, .int ((((f_Sta_read (10 : Int32) sp) &&& (64512 : Int32)) + ((64 : Int32) * (((((p0 &&& (524287 : Int32)) ^^^ p1) ^^^ (-1 : Int32)) &&& (f_Sta_read (10 : Int32) sp)) &&& (15 : Int32)))) + (0 : Int32))), (5, .int (f_Sta_read (10 : Int32) sp)), (4, .int (((-2147483648 : Int32) + ((128 : Int32) * p0)) + (ush p1 (10 : Int32)))), (3, .int ((p0 &&& (524287 : Int32)) ^^^ p1)), (0, .ref aQ), (1, .int p0), (2, .int p1)]) hx hb d_Map_findEntry_76 hl (by decide) rfl (fun ls hl => ?_)
                    refine lv_iload hx hb d_Map_findEntry_78 (lv_at hl 4 rfl) ?_
                    refine lv_ldc (v := (64512 : Int32)) hx hb hown (hB _ mw_337) d_Map_findEntry_80 ?_
                    refine lv_iand hx hb d_Map_findEntry_82 ?_
                    refine lv_bipush (v := (64 : Int32)) hx hb d_Map_findEntry_83 (by decide) ?_
                    refine lv_iload hx hb d_Map_findEntry_85 (lv_at hl 1 rfl) ?_
                    refine lv_iload hx hb d_Map_findEntry_87 (lv_at hl 4 rfl) ?_
                    refine lv_iand hx hb d_Map_findEntry_89 ?_
                    refine lv_bipush (v := (15 : Int32)) hx hb d_Map_findEntry_90 (by decide) ?_
                    refine lv_iand hx hb d_Map_findEntry_92 ?_
                    refine lv_imul hx hb d_Map_findEntry_93 ?_
                    refine lv_iadd hx hb d_Map_findEntry_94 ?_
                    refine lv_bipush (v := (8 : Int32)) hx hb d_Map_findEntry_95 (by decide) ?_
                    refine lv_iload hx hb d_Map_findEntry_97 (lv_at hl 2 rfl) ?_
                    refine lv_bipush (v := (7 : Int32)) hx hb d_Map_findEntry_99 (by decide) ?_
                    refine lv_iand hx hb d_Map_findEntry_101 ?_
                    refine k_fold (1 : Int32) (by decide) ?_
                    refine lv_imul hx hb d_Map_findEntry_102 ?_
                    refine k_fold (8 : Int32) (by decide) ?_
                    refine lv_iadd hx hb d_Map_findEntry_103 ?_
                    refine lv_istore (lv' := [(9, .int ((((f_Sta_read (10 : Int32) sp) &&& (64512 : Int32)) + ((64 : Int32) * (((((p0 &&& (524287 : Int32)) ^^^ p1) ^^^ (-1 : Int32)) &&& (f_Sta_read (10 : Int32) sp)) &&& (15 : Int32)))) + (8 : Int32))), (8, .int ((((-2147483648 : Int32) + ((128 : Int32) * p0)) + (ush p1 (10 : Int32))) + (64 : Int32))), (7, .int (((p0 &&& (524287 : Int32)) ^^^ p1) ^^^ (-1 : Int32))), (6, .int (9 : Int32)), (5, .int (f_Sta_read (10 : Int32) sp)), (4, .int (((-2147483648 : Int32) + ((128 : Int32) * p0)) + (ush p1 (10 : Int32)))), (3, .int ((p0 &&& (524287 : Int32)) ^^^ p1)), (0, .ref aQ), (1, .int p0), (2, .int p1)]) hx hb d_Map_findEntry_104 hl (by decide) rfl (fun ls hl => ?_)
                    refine lv_aload_n hx hb d_Map_findEntry_106 rfl (lv_at hl 7 rfl) ?_
                    refine va_get (D := D) (ci := 7) (v := .ref aM) (C := "MappedProcessor$Mapper") (T := T_Map) (N := 3) hx hb hB iw_Map hown hK hP 5 rfl rfl 0 (by decide) (hB _ mw_64) (fun _ h9 => h9) rfl d_Map_findEntry_107 ?_
                    refine lv_iload hx hb d_Map_findEntry_110 (lv_at hl 0 rfl) ?_
                    refine k_cVi (As := [.int ((((f_Sta_read (10 : Int32) sp) &&& (64512 : Int32)) + ((64 : Int32) * (((((p0 &&& (524287 : Int32)) ^^^ p1) ^^^ (-1 : Int32)) &&& (f_Sta_read (10 : Int32) sp)) &&& (15 : Int32)))) + (8 : Int32))]) (rest := []) (wr := [(aS, .inr (9, [.ref aG, .ref aX, .int nx, .int lt, .int sm, .int ex])), (aG, .inl (cG, 32, .inl g)), (aX, .inl (cX, 64, .inl sp)), (aQ, .inr (7, [.ref aM, .ref aS, .int en]))]) (wj := [(aM, .inr (8, [.ref aW])), (aW, .inl (cW, 16384, .inl w)), (aS, .inr (9, [.ref aG, .ref aX, .int nx, .int lt, .int sm, .int ex])), (aG, .inl (cG, 32, .inl g)), (aX, .inl (cX, 64, .inl sp)), (aQ, .inr (7, [.ref aM, .ref aS, .int en]))]) ⟨hx, hb, hml, hown, hB⟩ (c_Mem_at l D aM aW cW w ((((f_Sta_read (10 : Int32) sp) &&& (64512 : Int32)) + ((64 : Int32) * (((((p0 &&& (524287 : Int32)) ^^^ p1) ^^^ (-1 : Int32)) &&& (f_Sta_read (10 : Int32) sp)) &&& (15 : Int32)))) + (8 : Int32))) yl_Mem_at mw_338 hK hN hP hD hS hA [0] [0, 1] [2, 3, 4, 5] [4, 5, 0, 1, 2, 3] rfl rfl rfl rfl (by decide +kernel) 0 rfl rfl rfl rfl hl.1 rfl (Nat.le_of_ble_eq_true rfl) ⟨Nat.le_of_ble_eq_true rfl, Nat.le_of_ble_eq_true rfl⟩ d_Map_findEntry_112 ⟨Nat.le_of_ble_eq_true rfl, Nat.le_of_ble_eq_true rfl⟩ (fun H locs hP hD hS => ?_)
                    refine lv_iload hx hb d_Map_findEntry_115 (lv_at hl 1 rfl) ?_
                    refine lv_icmp_ne (tgt := 125) hx hb d_Map_findEntry_117 (by decide) (fun (h40 : ¬ (f_Mem_at ((((f_Sta_read (10 : Int32) sp) &&& (64512 : Int32)) + ((64 : Int32) * (((((p0 &&& (524287 : Int32)) ^^^ p1) ^^^ (-1 : Int32)) &&& (f_Sta_read (10 : Int32) sp)) &&& (15 : Int32)))) + (8 : Int32)) w) = ((((-2147483648 : Int32) + ((128 : Int32) * p0)) + (ush p1 (10 : Int32))) + (64 : Int32))) => ?_) (fun (h40 : (f_Mem_at ((((f_Sta_read (10 : Int32) sp) &&& (64512 : Int32)) + ((64 : Int32) * (((((p0 &&& (524287 : Int32)) ^^^ p1) ^^^ (-1 : Int32)) &&& (f_Sta_read (10 : Int32) sp)) &&& (15 : Int32)))) + (8 : Int32)) w) = ((((-2147483648 : Int32) + ((128 : Int32) * p0)) + (ush p1 (10 : Int32))) + (64 : Int32))) => ?_)
                    · refine lv_iinc (v := (10 : Int32)) (lv' := [(6, .int (10 : Int32)), (9, .int ((((f_Sta_read (10 : Int32) sp) &&& (64512 : Int32)) + ((64 : Int32) * (((((p0 &&& (524287 : Int32)) ^^^ p1) ^^^ (-1 : Int32)) &&& (f_Sta_read (10 : Int32) sp)) &&& (15 : Int32)))) + (8 : Int32))), (8, .int ((((-2147483648 : Int32) + ((128 : Int32) * p0)) + (ush p1 (10 : Int32))) + (64 : Int32))), (7, .int (((p0 &&& (524287 : Int32)) ^^^ p1) ^^^ (-1 : Int32))), (5, .int (f_Sta_read (10 : Int32) sp)), (4, .int (((-2147483648 : Int32) + ((128 : Int32) * p0)) + (ush p1 (10 : Int32)))), (3, .int ((p0 &&& (524287 : Int32)) ^^^ p1)), (0, .ref aQ), (1, .int p0), (2, .int p1)]) hx hb d_Map_findEntry_125 hl (k := 3) rfl (by decide) (by decide) rfl (fun ls hl => ?_)
                      refine lv_goto (tgt := 36) hx hb d_Map_findEntry_128 (by decide) ?_
                      refine lv_iload hx hb d_Map_findEntry_36 (lv_at hl 0 rfl) ?_
                      refine lv_bipush (v := (16 : Int32)) hx hb d_Map_findEntry_38 (by decide) ?_
                      refine lv_icmp_ge (tgt := 131) hx hb d_Map_findEntry_40 (by decide) (fun h41 => ?_) (fun h41 => ?_)
                      · exact absurd h41 (by decide)
                      refine lv_iload hx hb d_Map_findEntry_43 (lv_at hl 0 rfl) ?_
                      refine lv_bipush (v := (8 : Int32)) hx hb d_Map_findEntry_45 (by decide) ?_
                      refine lv_icmp_ge (tgt := 54) hx hb d_Map_findEntry_47 (by decide) (fun h42 => ?_) (fun h42 => ?_)
                      rotate_left
                      · exact absurd (by decide) h42
                      refine lv_iload_n hx hb d_Map_findEntry_54 rfl (lv_at hl 6 rfl) ?_
                      refine lv_iconst (v := (-1 : Int32)) hx hb d_Map_findEntry_55 (by decide) ?_
                      refine lv_ixor hx hb d_Map_findEntry_56 ?_
                      refine lv_istore (lv' := [(7, .int (((p0 &&& (524287 : Int32)) ^^^ p1) ^^^ (-1 : Int32))), (6, .int (10 : Int32)), (9, .int ((((f_Sta_read (10 : Int32) sp) &&& (64512 : Int32)) + ((64 : Int32) * (((((p0 &&& (524287 : Int32)) ^^^ p1) ^^^ (-1 : Int32)) &&& (f_Sta_read (10 : Int32) sp)) &&& (15 : Int32)))) + (8 : Int32))), (8, .int ((((-2147483648 : Int32) + ((128 : Int32) * p0)) + (ush p1 (10 : Int32))) + (64 : Int32))), (5, .int (f_Sta_read (10 : Int32) sp)), (4, .int (((-2147483648 : Int32) + ((128 : Int32) * p0)) + (ush p1 (10 : Int32)))), (3, .int ((p0 &&& (524287 : Int32)) ^^^ p1)), (0, .ref aQ), (1, .int p0), (2, .int p1)]) hx hb d_Map_findEntry_57 hl (by decide) rfl (fun ls hl => ?_)
                      refine lv_iload hx hb d_Map_findEntry_59 (lv_at hl 1 rfl) ?_
                      refine lv_bipush (v := (8 : Int32)) hx hb d_Map_findEntry_61 (by decide) ?_
                      refine lv_icmp_ge (tgt := 71) hx hb d_Map_findEntry_63 (by decide) (fun h43 => ?_) (fun h43 => ?_)
                      rotate_left
                      · exact absurd (by decide) h43
                      refine lv_iload hx hb d_Map_findEntry_71 (lv_at hl 5 rfl) ?_
                      refine lv_bipush (v := (64 : Int32)) hx hb d_Map_findEntry_73 (by decide) ?_
                      refine lv_iadd hx hb d_Map_findEntry_75 ?_
                      refine lv_istore (lv' := [(8, .int ((((-2147483648 : Int32) + ((128 : Int32) * p0)) + (ush p1 (10 : Int32))) + (64 : Int32))), (7, .int (((p0 &&& (524287 : Int32)) ^^^ p1) ^^^ (-1 : Int32))), (6, .int (10 : Int32)), (9, .int ((((f_Sta_read (10 : Int32) sp) &&& (64512 : Int32)) + ((64 : Int32) * (((((p0 &&& (524287 : Int32)) ^^^ p1) ^^^ (-1 : Int32)) &&& (f_Sta_read (10 : Int32) sp)) &&& (15 : Int32)))) + (8 : Int32))), (5, .int (f_Sta_read (10 : Int32) sp)), (4, .int (((-2147483648 : Int32) + ((128 : Int32) * p0)) + (ush p1 (10 : Int32)))), (3, .int ((p0 &&& (524287 : Int32)) ^^^ p1)), (0, .ref aQ), (1, .int p0), (2, .int p1)]) hx hb d_Map_findEntry_76 hl (by decide) rfl (fun ls hl => ?_)
                      refine lv_iload hx hb d_Map_findEntry_78 (lv_at hl 4 rfl) ?_
                      refine lv_ldc (v := (64512 : Int32)) hx hb hown (hB _ mw_337) d_Map_findEntry_80 ?_
                      refine lv_iand hx hb d_Map_findEntry_82 ?_
                      refine lv_bipush (v := (64 : Int32)) hx hb d_Map_findEntry_83 (by decide) ?_
                      refine lv_iload hx hb d_Map_findEntry_85 (lv_at hl 1 rfl) ?_
                      refine lv_iload hx hb d_Map_findEntry_87 (lv_at hl 4 rfl) ?_
                      refine lv_iand hx hb d_Map_findEntry_89 ?_
                      refine lv_bipush (v := (15 : Int32)) hx hb d_Map_findEntry_90 (by decide) ?_
                      refine lv_iand hx hb d_Map_findEntry_92 ?_
                      refine lv_imul hx hb d_Map_findEntry_93 ?_
                      refine lv_iadd hx hb d_Map_findEntry_94 ?_
                      refine lv_bipush (v := (8 : Int32)) hx hb d_Map_findEntry_95 (by decide) ?_
                      refine lv_iload hx hb d_Map_findEntry_97 (lv_at hl 2 rfl) ?_
                      refine lv_bipush (v := (7 : Int32)) hx hb d_Map_findEntry_99 (by decide) ?_
                      refine lv_iand hx hb d_Map_findEntry_101 ?_
                      refine k_fold (2 : Int32) (by decide) ?_
                      refine lv_imul hx hb d_Map_findEntry_102 ?_
                      refine k_fold (16 : Int32) (by decide) ?_
                      refine lv_iadd hx hb d_Map_findEntry_103 ?_
                      refine lv_istore (lv' := [(9, .int ((((f_Sta_read (10 : Int32) sp) &&& (64512 : Int32)) + ((64 : Int32) * (((((p0 &&& (524287 : Int32)) ^^^ p1) ^^^ (-1 : Int32)) &&& (f_Sta_read (10 : Int32) sp)) &&& (15 : Int32)))) + (16 : Int32))), (8, .int ((((-2147483648 : Int32) + ((128 : Int32) * p0)) + (ush p1 (10 : Int32))) + (64 : Int32))), (7, .int (((p0 &&& (524287 : Int32)) ^^^ p1) ^^^ (-1 : Int32))), (6, .int (10 : Int32)), (5, .int (f_Sta_read (10 : Int32) sp)), (4, .int (((-2147483648 : Int32) + ((128 : Int32) * p0)) + (ush p1 (10 : Int32)))), (3, .int ((p0 &&& (524287 : Int32)) ^^^ p1)), (0, .ref aQ), (1, .int p0), (2, .int p1)]) hx hb d_Map_findEntry_104 hl (by decide) rfl (fun ls hl => ?_)
                      refine lv_aload_n hx hb d_Map_findEntry_106 rfl (lv_at hl 7 rfl) ?_
                      refine va_get (D := D) (ci := 7) (v := .ref aM) (C := "MappedProcessor$Mapper") (T := T_Map) (N := 3) hx hb hB iw_Map hown hK hP 5 rfl rfl 0 (by decide) (hB _ mw_64) (fun _ h9 => h9) rfl d_Map_findEntry_107 ?_
                      refine lv_iload hx hb d_Map_findEntry_110 (lv_at hl 0 rfl) ?_
                      refine k_cVi (As := [.int ((((f_Sta_read (10 : Int32) sp) &&& (64512 : Int32)) + ((64 : Int32) * (((((p0 &&& (524287 : Int32)) ^^^ p1) ^^^ (-1 : Int32)) &&& (f_Sta_read (10 : Int32) sp)) &&& (15 : Int32)))) + (16 : Int32))]) (rest := []) (wr := [(aS, .inr (9, [.ref aG, .ref aX, .int nx, .int lt, .int sm, .int ex])), (aG, .inl (cG, 32, .inl g)), (aX, .inl (cX, 64, .inl sp)), (aQ, .inr (7, [.ref aM, .ref aS, .int en]))]) (wj := [(aM, .inr (8, [.ref aW])), (aW, .inl (cW, 16384, .inl w)), (aS, .inr (9, [.ref aG, .ref aX, .int nx, .int lt, .int sm, .int ex])), (aG, .inl (cG, 32, .inl g)), (aX, .inl (cX, 64, .inl sp)), (aQ, .inr (7, [.ref aM, .ref aS, .int en]))]) ⟨hx, hb, hml, hown, hB⟩ (c_Mem_at l D aM aW cW w ((((f_Sta_read (10 : Int32) sp) &&& (64512 : Int32)) + ((64 : Int32) * (((((p0 &&& (524287 : Int32)) ^^^ p1) ^^^ (-1 : Int32)) &&& (f_Sta_read (10 : Int32) sp)) &&& (15 : Int32)))) + (16 : Int32))) yl_Mem_at mw_338 hK hN hP hD hS hA [0] [0, 1] [2, 3, 4, 5] [4, 5, 0, 1, 2, 3] rfl rfl rfl rfl (by decide +kernel) 0 rfl rfl rfl rfl hl.1 rfl (Nat.le_of_ble_eq_true rfl) ⟨Nat.le_of_ble_eq_true rfl, Nat.le_of_ble_eq_true rfl⟩ d_Map_findEntry_112 ⟨Nat.le_of_ble_eq_true rfl, Nat.le_of_ble_eq_true rfl⟩ (fun H locs hP hD hS => ?_)
                      refine lv_iload hx hb d_Map_findEntry_115 (lv_at hl 1 rfl) ?_
                      refine lv_icmp_ne (tgt := 125) hx hb d_Map_findEntry_117 (by decide) (fun (h44 : ¬ (f_Mem_at ((((f_Sta_read (10 : Int32) sp) &&& (64512 : Int32)) + ((64 : Int32) * (((((p0 &&& (524287 : Int32)) ^^^ p1) ^^^ (-1 : Int32)) &&& (f_Sta_read (10 : Int32) sp)) &&& (15 : Int32)))) + (16 : Int32)) w) = ((((-2147483648 : Int32) + ((128 : Int32) * p0)) + (ush p1 (10 : Int32))) + (64 : Int32))) => ?_) (fun (h44 : (f_Mem_at ((((f_Sta_read (10 : Int32) sp) &&& (64512 : Int32)) + ((64 : Int32) * (((((p0 &&& (524287 : Int32)) ^^^ p1) ^^^ (-1 : Int32)) &&& (f_Sta_read (10 : Int32) sp)) &&& (15 : Int32)))) + (16 : Int32)) w) = ((((-2147483648 : Int32) + ((128 : Int32) * p0)) + (ush p1 (10 : Int32))) + (64 : Int32))) => ?_)
                      · refine lv_iinc (v := (11 : Int32)) (lv' := [(6, .int (11 : Int32)), (9, .int ((((f_Sta_read (10 : Int32) sp) &&& (64512 : Int32)) + ((64 : Int32) * (((((p0 &&& (524287 : Int32)) ^^^ p1) ^^^ (-1 : Int32)) &&& (f_Sta_read (10 : Int32) sp)) &&& (15 : Int32)))) + (16 : Int32))), (8, .int ((((-2147483648 : Int32) + ((128 : Int32) * p0)) + (ush p1 (10 : Int32))) + (64 : Int32))), (7, .int (((p0 &&& (524287 : Int32)) ^^^ p1) ^^^ (-1 : Int32))), (5, .int (f_Sta_read (10 : Int32) sp)), (4, .int (((-2147483648 : Int32) + ((128 : Int32) * p0)) + (ush p1 (10 : Int32)))), (3, .int ((p0 &&& (524287 : Int32)) ^^^ p1)), (0, .ref aQ), (1, .int p0), (2, .int p1)]) hx hb d_Map_findEntry_125 hl (k := 3) rfl (by decide) (by decide) rfl (fun ls hl => ?_)
                        refine lv_goto (tgt := 36) hx hb d_Map_findEntry_128 (by decide) ?_
                        refine lv_iload hx hb d_Map_findEntry_36 (lv_at hl 0 rfl) ?_
                        refine lv_bipush (v := (16 : Int32)) hx hb d_Map_findEntry_38 (by decide) ?_
                        refine lv_icmp_ge (tgt := 131) hx hb d_Map_findEntry_40 (by decide) (fun h45 => ?_) (fun h45 => ?_)
                        · exact absurd h45 (by decide)
                        refine lv_iload hx hb d_Map_findEntry_43 (lv_at hl 0 rfl) ?_
                        refine lv_bipush (v := (8 : Int32)) hx hb d_Map_findEntry_45 (by decide) ?_
                        refine lv_icmp_ge (tgt := 54) hx hb d_Map_findEntry_47 (by decide) (fun h46 => ?_) (fun h46 => ?_)
                        rotate_left
                        · exact absurd (by decide) h46
                        refine lv_iload_n hx hb d_Map_findEntry_54 rfl (lv_at hl 6 rfl) ?_
                        refine lv_iconst (v := (-1 : Int32)) hx hb d_Map_findEntry_55 (by decide) ?_
                        refine lv_ixor hx hb d_Map_findEntry_56 ?_
                        refine lv_istore (lv' := [(7, .int (((p0 &&& (524287 : Int32)) ^^^ p1) ^^^ (-1 : Int32))), (6, .int (11 : Int32)), (9, .int ((((f_Sta_read (10 : Int32) sp) &&& (64512 : Int32)) + ((64 : Int32) * (((((p0 &&& (524287 : Int32)) ^^^ p1) ^^^ (-1 : Int32)) &&& (f_Sta_read (10 : Int32) sp)) &&& (15 : Int32)))) + (16 : Int32))), (8, .int ((((-2147483648 : Int32) + ((128 : Int32) * p0)) + (ush p1 (10 : Int32))) + (64 : Int32))), (5, .int (f_Sta_read (10 : Int32) sp)), (4, .int (((-2147483648 : Int32) + ((128 : Int32) * p0)) + (ush p1 (10 : Int32)))), (3, .int ((p0 &&& (524287 : Int32)) ^^^ p1)), (0, .ref aQ), (1, .int p0), (2, .int p1)]) hx hb d_Map_findEntry_57 hl (by decide) rfl (fun ls hl => ?_)
                        refine lv_iload hx hb d_Map_findEntry_59 (lv_at hl 1 rfl) ?_
                        refine lv_bipush (v := (8 : Int32)) hx hb d_Map_findEntry_61 (by decide) ?_
                        refine lv_icmp_ge (tgt := 71) hx hb d_Map_findEntry_63 (by decide) (fun h47 => ?_) (fun h47 => ?_)
                        rotate_left
                        · exact absurd (by decide) h47
                        refine lv_iload hx hb d_Map_findEntry_71 (lv_at hl 5 rfl) ?_
                        refine lv_bipush (v := (64 : Int32)) hx hb d_Map_findEntry_73 (by decide) ?_
                        refine lv_iadd hx hb d_Map_findEntry_75 ?_
                        refine lv_istore (lv' := [(8, .int ((((-2147483648 : Int32) + ((128 : Int32) * p0)) + (ush p1 (10 : Int32))) + (64 : Int32))), (7, .int (((p0 &&& (524287 : Int32)) ^^^ p1) ^^^ (-1 : Int32))), (6, .int (11 : Int32)), (9, .int ((((f_Sta_read (10 : Int32) sp) &&& (64512 : Int32)) + ((64 : Int32) * (((((p0 &&& (524287 : Int32)) ^^^ p1) ^^^ (-1 : Int32)) &&& (f_Sta_read (10 : Int32) sp)) &&& (15 : Int32)))) + (16 : Int32))), (5, .int (f_Sta_read (10 : Int32) sp)), (4, .int (((-2147483648 : Int32) + ((128 : Int32) * p0)) + (ush p1 (10 : Int32)))), (3, .int ((p0 &&& (524287 : Int32)) ^^^ p1)), (0, .ref aQ), (1, .int p0), (2, .int p1)]) hx hb d_Map_findEntry_76 hl (by decide) rfl (fun ls hl => ?_)
                        refine lv_iload hx hb d_Map_findEntry_78 (lv_at hl 4 rfl) ?_
                        refine lv_ldc (v := (64512 : Int32)) hx hb hown (hB _ mw_337) d_Map_findEntry_80 ?_
                        refine lv_iand hx hb d_Map_findEntry_82 ?_
                        refine lv_bipush (v := (64 : Int32)) hx hb d_Map_findEntry_83 (by decide) ?_
                        refine lv_iload hx hb d_Map_findEntry_85 (lv_at hl 1 rfl) ?_
                        refine lv_iload hx hb d_Map_findEntry_87 (lv_at hl 4 rfl) ?_
                        refine lv_iand hx hb d_Map_findEntry_89 ?_
                        refine lv_bipush (v := (15 : Int32)) hx hb d_Map_findEntry_90 (by decide) ?_
                        refine lv_iand hx hb d_Map_findEntry_92 ?_
                        refine lv_imul hx hb d_Map_findEntry_93 ?_
                        refine lv_iadd hx hb d_Map_findEntry_94 ?_
                        refine lv_bipush (v := (8 : Int32)) hx hb d_Map_findEntry_95 (by decide) ?_
                        refine lv_iload hx hb d_Map_findEntry_97 (lv_at hl 2 rfl) ?_
                        refine lv_bipush (v := (7 : Int32)) hx hb d_Map_findEntry_99 (by decide) ?_
                        refine lv_iand hx hb d_Map_findEntry_101 ?_
                        refine k_fold (3 : Int32) (by decide) ?_
                        refine lv_imul hx hb d_Map_findEntry_102 ?_
                        refine k_fold (24 : Int32) (by decide) ?_
                        refine lv_iadd hx hb d_Map_findEntry_103 ?_
                        refine lv_istore (lv' := [(9, .int ((((f_Sta_read (10 : Int32) sp) &&& (64512 : Int32)) + ((64 : Int32) * (((((p0 &&& (524287 : Int32)) ^^^ p1) ^^^ (-1 : Int32)) &&& (f_Sta_read (10 : Int32) sp)) &&& (15 : Int32)))) + (24 : Int32))), (8, .int ((((-2147483648 : Int32) + ((128 : Int32) * p0)) + (ush p1 (10 : Int32))) + (64 : Int32))), (7, .int (((p0 &&& (524287 : Int32)) ^^^ p1) ^^^ (-1 : Int32))), (6, .int (11 : Int32)), (5, .int (f_Sta_read (10 : Int32) sp)), (4, .int (((-2147483648 : Int32) + ((128 : Int32) * p0)) + (ush p1 (10 : Int32)))), (3, .int ((p0 &&& (524287 : Int32)) ^^^ p1)), (0, .ref aQ), (1, .int p0), (2, .int p1)]) hx hb d_Map_findEntry_104 hl (by decide) rfl (fun ls hl => ?_)
                        refine lv_aload_n hx hb d_Map_findEntry_106 rfl (lv_at hl 7 rfl) ?_
                        refine va_get (D := D) (ci := 7) (v := .ref aM) (C := "MappedProcessor$Mapper") (T := T_Map) (N := 3) hx hb hB iw_Map hown hK hP 5 rfl rfl 0 (by decide) (hB _ mw_64) (fun _ h9 => h9) rfl d_Map_findEntry_107 ?_
                        refine lv_iload hx hb d_Map_findEntry_110 (lv_at hl 0 rfl) ?_
                        refine k_cVi (As := [.int ((((f_Sta_read (10 : Int32) sp) &&& (64512 : Int32)) + ((64 : Int32) * (((((p0 &&& (524287 : Int32)) ^^^ p1) ^^^ (-1 : Int32)) &&& (f_Sta_read (10 : Int32) sp)) &&& (15 : Int32)))) + (24 : Int32))]) (rest := []) (wr := [(aS, .inr (9, [.ref aG, .ref aX, .int nx, .int lt, .int sm, .int ex])), (aG, .inl (cG, 32, .inl g)), (aX, .inl (cX, 64, .inl sp)), (aQ, .inr (7, [.ref aM, .ref aS, .int en]))]) (wj := [(aM, .inr (8, [.ref aW])), (aW, .inl (cW, 16384, .inl w)), (aS, .inr (9, [.ref aG, .ref aX, .int nx, .int lt, .int sm, .int ex])), (aG, .inl (cG, 32, .inl g)), (aX, .inl (cX, 64, .inl sp)), (aQ, .inr (7, [.ref aM, .ref aS, .int en]))]) ⟨hx, hb, hml, hown, hB⟩ (c_Mem_at l D aM aW cW w ((((f_Sta_read (10 : Int32) sp) &&& (64512 : Int32)) + ((64 : Int32) * (((((p0 &&& (524287 : Int32)) ^^^ p1) ^^^ (-1 : Int32)) &&& (f_Sta_read (10 : Int32) sp)) &&& (15 : Int32)))) + (24 : Int32))) yl_Mem_at mw_338 hK hN hP hD hS hA [0] [0, 1] [2, 3, 4, 5] [4, 5, 0, 1, 2, 3] rfl rfl rfl rfl (by decide +kernel) 0 rfl rfl rfl rfl hl.1 rfl (Nat.le_of_ble_eq_true rfl) ⟨Nat.le_of_ble_eq_true rfl, Nat.le_of_ble_eq_true rfl⟩ d_Map_findEntry_112 ⟨Nat.le_of_ble_eq_true rfl, Nat.le_of_ble_eq_true rfl⟩ (fun H locs hP hD hS => ?_)
                        refine lv_iload hx hb d_Map_findEntry_115 (lv_at hl 1 rfl) ?_
                        refine lv_icmp_ne (tgt := 125) hx hb d_Map_findEntry_117 (by decide) (fun (h48 : ¬ (f_Mem_at ((((f_Sta_read (10 : Int32) sp) &&& (64512 : Int32)) + ((64 : Int32) * (((((p0 &&& (524287 : Int32)) ^^^ p1) ^^^ (-1 : Int32)) &&& (f_Sta_read (10 : Int32) sp)) &&& (15 : Int32)))) + (24 : Int32)) w) = ((((-2147483648 : Int32) + ((128 : Int32) * p0)) + (ush p1 (10 : Int32))) + (64 : Int32))) => ?_) (fun (h48 : (f_Mem_at ((((f_Sta_read (10 : Int32) sp) &&& (64512 : Int32)) + ((64 : Int32) * (((((p0 &&& (524287 : Int32)) ^^^ p1) ^^^ (-1 : Int32)) &&& (f_Sta_read (10 : Int32) sp)) &&& (15 : Int32)))) + (24 : Int32)) w) = ((((-2147483648 : Int32) + ((128 : Int32) * p0)) + (ush p1 (10 : Int32))) + (64 : Int32))) => ?_)
                        · refine lv_iinc (v := (12 : Int32)) (lv' := [(6, .int (12 : Int32)), (9, .int ((((f_Sta_read (10 : Int32) sp) &&& (64512 : Int32)) + ((64 : Int32) * (((((p0 &&& (524287 : Int32)) ^^^ p1) ^^^ (-1 : Int32)) &&& (f_Sta_read (10 : Int32) sp)) &&& (15 : Int32)))) + (24 : Int32))), (8, .int ((((-2147483648 : Int32) + ((128 : Int32) * p0)) + (ush p1 (10 : Int32))) + (64 : Int32))), (7, .int (((p0 &&& (524287 : Int32)) ^^^ p1) ^^^ (-1 : Int32))), (5, .int (f_Sta_read (10 : Int32) sp)), (4, .int (((-2147483648 : Int32) + ((128 : Int32) * p0)) + (ush p1 (10 : Int32)))), (3, .int ((p0 &&& (524287 : Int32)) ^^^ p1)), (0, .ref aQ), (1, .int p0), (2, .int p1)]) hx hb d_Map_findEntry_125 hl (k := 3) rfl (by decide) (by decide) rfl (fun ls hl => ?_)
                          refine lv_goto (tgt := 36) hx hb d_Map_findEntry_128 (by decide) ?_
                          refine lv_iload hx hb d_Map_findEntry_36 (lv_at hl 0 rfl) ?_
                          refine lv_bipush (v := (16 : Int32)) hx hb d_Map_findEntry_38 (by decide) ?_
                          refine lv_icmp_ge (tgt := 131) hx hb d_Map_findEntry_40 (by decide) (fun h49 => ?_) (fun h49 => ?_)
                          · exact absurd h49 (by decide)
                          refine lv_iload hx hb d_Map_findEntry_43 (lv_at hl 0 rfl) ?_
                          refine lv_bipush (v := (8 : Int32)) hx hb d_Map_findEntry_45 (by decide) ?_
                          refine lv_icmp_ge (tgt := 54) hx hb d_Map_findEntry_47 (by decide) (fun h50 => ?_) (fun h50 => ?_)
                          rotate_left
                          · exact absurd (by decide) h50
                          refine lv_iload_n hx hb d_Map_findEntry_54 rfl (lv_at hl 6 rfl) ?_
                          refine lv_iconst (v := (-1 : Int32)) hx hb d_Map_findEntry_55 (by decide) ?_
                          refine lv_ixor hx hb d_Map_findEntry_56 ?_
                          refine lv_istore (lv' := [(7, .int (((p0 &&& (524287 : Int32)) ^^^ p1) ^^^ (-1 : Int32))), (6, .int (12 : Int32)), (9, .int ((((f_Sta_read (10 : Int32) sp) &&& (64512 : Int32)) + ((64 : Int32) * (((((p0 &&& (524287 : Int32)) ^^^ p1) ^^^ (-1 : Int32)) &&& (f_Sta_read (10 : Int32) sp)) &&& (15 : Int32)))) + (24 : Int32))), (8, .int ((((-2147483648 : Int32) + ((128 : Int32) * p0)) + (ush p1 (10 : Int32))) + (64 : Int32))), (5, .int (f_Sta_read (10 : Int32) sp)), (4, .int (((-2147483648 : Int32) + ((128 : Int32) * p0)) + (ush p1 (10 : Int32)))), (3, .int ((p0 &&& (524287 : Int32)) ^^^ p1)), (0, .ref aQ), (1, .int p0), (2, .int p1)]) hx hb d_Map_findEntry_57 hl (by decide) rfl (fun ls hl => ?_)
                          refine lv_iload hx hb d_Map_findEntry_59 (lv_at hl 1 rfl) ?_
                          refine lv_bipush (v := (8 : Int32)) hx hb d_Map_findEntry_61 (by decide) ?_
                          refine lv_icmp_ge (tgt := 71) hx hb d_Map_findEntry_63 (by decide) (fun h51 => ?_) (fun h51 => ?_)
                          rotate_left
                          · exact absurd (by decide) h51
                          refine lv_iload hx hb d_Map_findEntry_71 (lv_at hl 5 rfl) ?_
                          refine lv_bipush (v := (64 : Int32)) hx hb d_Map_findEntry_73 (by decide) ?_
                          refine lv_iadd hx hb d_Map_findEntry_75 ?_
                          refine lv_istore (lv' := [(8, .int ((((-2147483648 : Int32) + ((128 : Int32) * p0)) + (ush p1 (10 : Int32))) + (64 : Int32))), (7, .int (((p0 &&& (524287 : Int32)) ^^^ p1) ^^^ (-1 : Int32))), (6, .int (12 : Int32)), (9, .int ((((f_Sta_read (10 : Int32) sp) &&& (64512 : Int32)) + ((64 : Int32) * (((((p0 &&& (524287 : Int32)) ^^^ p1) ^^^ (-1 : Int32)) &&& (f_Sta_read (10 : Int32) sp)) &&& (15 : Int32)))) + (24 : Int32))), (5, .int (f_Sta_read (10 : Int32) sp)), (4, .int (((-2147483648 : Int32) + ((128 : Int32) * p0)) + (ush p1 (10 : Int32)))), (3, .int ((p0 &&& (524287 : Int32)) ^^^ p1)), (0, .ref aQ), (1, .int p0), (2, .int p1)]) hx hb d_Map_findEntry_76 hl (by decide) rfl (fun ls hl => ?_)
                          refine lv_iload hx hb d_Map_findEntry_78 (lv_at hl 4 rfl) ?_
                          refine lv_ldc (v := (64512 : Int32)) hx hb hown (hB _ mw_337) d_Map_findEntry_80 ?_
                          refine lv_iand hx hb d_Map_findEntry_82 ?_
                          refine lv_bipush (v := (64 : Int32)) hx hb d_Map_findEntry_83 (by decide) ?_
                          refine lv_iload hx hb d_Map_findEntry_85 (lv_at hl 1 rfl) ?_
                          refine lv_iload hx hb d_Map_findEntry_87 (lv_at hl 4 rfl) ?_
                          refine lv_iand hx hb d_Map_findEntry_89 ?_
                          refine lv_bipush (v := (15 : Int32)) hx hb d_Map_findEntry_90 (by decide) ?_
                          refine lv_iand hx hb d_Map_findEntry_92 ?_
                          refine lv_imul hx hb d_Map_findEntry_93 ?_
                          refine lv_iadd hx hb d_Map_findEntry_94 ?_
                          refine lv_bipush (v := (8 : Int32)) hx hb d_Map_findEntry_95 (by decide) ?_
                          refine lv_iload hx hb d_Map_findEntry_97 (lv_at hl 2 rfl) ?_
                          refine lv_bipush (v := (7 : Int32)) hx hb d_Map_findEntry_99 (by decide) ?_
                          refine lv_iand hx hb d_Map_findEntry_101 ?_
                          refine k_fold (4 : Int32) (by decide) ?_
                          refine lv_imul hx hb d_Map_findEntry_102 ?_
                          refine k_fold (32 : Int32) (by decide) ?_
                          refine lv_iadd hx hb d_Map_findEntry_103 ?_
                          refine lv_istore (lv' := [(9, .int ((((f_Sta_read (10 : Int32) sp) &&& (64512 : Int32)) + ((64 : Int32) * (((((p0 &&& (524287 : Int32)) ^^^ p1) ^^^ (-1 : Int32)) &&& (f_Sta_read (10 : Int32) sp)) &&& (15 : Int32)))) + (32 : Int32))), (8, .int ((((-2147483648 : Int32) + ((128 : Int32) * p0)) + (ush p1 (10 : Int32))) + (64 : Int32))), (7, .int (((p0 &&& (524287 : Int32)) ^^^ p1) ^^^ (-1 : Int32))), (6, .int (12 : Int32)), (5, .int (f_Sta_read (10 : Int32) sp)), (4, .int (((-2147483648 : Int32) + ((128 : Int32) * p0)) + (ush p1 (10 : Int32)))), (3, .int ((p0 &&& (524287 : Int32)) ^^^ p1)), (0, .ref aQ), (1, .int p0), (2, .int p1)]) hx hb d_Map_findEntry_104 hl (by decide) rfl (fun ls hl => ?_)
                          refine lv_aload_n hx hb d_Map_findEntry_106 rfl (lv_at hl 7 rfl) ?_
                          refine va_get (D := D) (ci := 7) (v := .ref aM) (C := "MappedProcessor$Mapper") (T := T_Map) (N := 3) hx hb hB iw_Map hown hK hP 5 rfl rfl 0 (by decide) (hB _ mw_64) (fun _ h9 => h9) rfl d_Map_findEntry_107 ?_
                          refine lv_iload hx hb d_Map_findEntry_110 (lv_at hl 0 rfl) ?_
                          refine k_cVi (As := [.int ((((f_Sta_read (10 : Int32) sp) &&& (64512 : Int32)) + ((64 : Int32) * (((((p0 &&& (524287 : Int32)) ^^^ p1) ^^^ (-1 : Int32)) &&& (f_Sta_read (10 : Int32) sp)) &&& (15 : Int32)))) + (32 : Int32))]) (rest := []) (wr := [(aS, .inr (9, [.ref aG, .ref aX, .int nx, .int lt, .int sm, .int ex])), (aG, .inl (cG, 32, .inl g)), (aX, .inl (cX, 64, .inl sp)), (aQ, .inr (7, [.ref aM, .ref aS, .int en]))]) (wj := [(aM, .inr (8, [.ref aW])), (aW, .inl (cW, 16384, .inl w)), (aS, .inr (9, [.ref aG, .ref aX, .int nx, .int lt, .int sm, .int ex])), (aG, .inl (cG, 32, .inl g)), (aX, .inl (cX, 64, .inl sp)), (aQ, .inr (7, [.ref aM, .ref aS, .int en]))]) ⟨hx, hb, hml, hown, hB⟩ (c_Mem_at l D aM aW cW w ((((f_Sta_read (10 : Int32) sp) &&& (64512 : Int32)) + ((64 : Int32) * (((((p0 &&& (524287 : Int32)) ^^^ p1) ^^^ (-1 : Int32)) &&& (f_Sta_read (10 : Int32) sp)) &&& (15 : Int32)))) + (32 : Int32))) yl_Mem_at mw_338 hK hN hP hD hS hA [0] [0, 1] [2, 3, 4, 5] [4, 5, 0, 1, 2, 3] rfl rfl rfl rfl (by decide +kernel) 0 rfl rfl rfl rfl hl.1 rfl (Nat.le_of_ble_eq_true rfl) ⟨Nat.le_of_ble_eq_true rfl, Nat.le_of_ble_eq_true rfl⟩ d_Map_findEntry_112 ⟨Nat.le_of_ble_eq_true rfl, Nat.le_of_ble_eq_true rfl⟩ (fun H locs hP hD hS => ?_)
                          refine lv_iload hx hb d_Map_findEntry_115 (lv_at hl 1 rfl) ?_
                          refine lv_icmp_ne (tgt := 125) hx hb d_Map_findEntry_117 (by decide) (fun (h52 : ¬ (f_Mem_at ((((f_Sta_read (10 : Int32) sp) &&& (64512 : Int32)) + ((64 : Int32) * (((((p0 &&& (524287 : Int32)) ^^^ p1) ^^^ (-1 : Int32)) &&& (f_Sta_read (10 : Int32) sp)) &&& (15 : Int32)))) + (32 : Int32)) w) = ((((-2147483648 : Int32) + ((128 : Int32) * p0)) + (ush p1 (10 : Int32))) + (64 : Int32))) => ?_) (fun (h52 : (f_Mem_at ((((f_Sta_read (10 : Int32) sp) &&& (64512 : Int32)) + ((64 : Int32) * (((((p0 &&& (524287 : Int32)) ^^^ p1) ^^^ (-1 : Int32)) &&& (f_Sta_read (10 : Int32) sp)) &&& (15 : Int32)))) + (32 : Int32)) w) = ((((-2147483648 : Int32) + ((128 : Int32) * p0)) + (ush p1 (10 : Int32))) + (64 : Int32))) => ?_)
                          · refine lv_iinc (v := (13 : Int32)) (lv' := [(6, .int (13 : Int32)), (9, .int ((((f_Sta_read (10 : Int32) sp) &&& (64512 : Int32)) + ((64 : Int32) * (((((p0 &&& (524287 : Int32)) ^^^ p1) ^^^ (-1 : Int32)) &&& (f_Sta_read (10 : Int32) sp)) &&& (15 : Int32)))) + (32 : Int32))), (8, .int ((((-2147483648 : Int32) + ((128 : Int32) * p0)) + (ush p1 (10 : Int32))) + (64 : Int32))), (7, .int (((p0 &&& (524287 : Int32)) ^^^ p1) ^^^ (-1 : Int32))), (5, .int (f_Sta_read (10 : Int32) sp)), (4, .int (((-2147483648 : Int32) + ((128 : Int32) * p0)) + (ush p1 (10 : Int32)))), (3, .int ((p0 &&& (524287 : Int32)) ^^^ p1)), (0, .ref aQ), (1, .int p0), (2, .int p1)]) hx hb d_Map_findEntry_125 hl (k := 3) rfl (by decide) (by decide) rfl (fun ls hl => ?_)
                            refine lv_goto (tgt := 36) hx hb d_Map_findEntry_128 (by decide) ?_
                            refine lv_iload hx hb d_Map_findEntry_36 (lv_at hl 0 rfl) ?_
                            refine lv_bipush (v := (16 : Int32)) hx hb d_Map_findEntry_38 (by decide) ?_
                            refine lv_icmp_ge (tgt := 131) hx hb d_Map_findEntry_40 (by decide) (fun h53 => ?_) (fun h53 => ?_)
                            · exact absurd h53 (by decide)
                            refine lv_iload hx hb d_Map_findEntry_43 (lv_at hl 0 rfl) ?_
                            refine lv_bipush (v := (8 : Int32)) hx hb d_Map_findEntry_45 (by decide) ?_
                            refine lv_icmp_ge (tgt := 54) hx hb d_Map_findEntry_47 (by decide) (fun h54 => ?_) (fun h54 => ?_)
                            rotate_left
                            · exact absurd (by decide) h54
                            refine lv_iload_n hx hb d_Map_findEntry_54 rfl (lv_at hl 6 rfl) ?_
                            refine lv_iconst (v := (-1 : Int32)) hx hb d_Map_findEntry_55 (by decide) ?_
                            refine lv_ixor hx hb d_Map_findEntry_56 ?_
                            refine lv_istore (lv' := [(7, .int (((p0 &&& (524287 : Int32)) ^^^ p1) ^^^ (-1 : Int32))), (6, .int (13 : Int32)), (9, .int ((((f_Sta_read (10 : Int32) sp) &&& (64512 : Int32)) + ((64 : Int32) * (((((p0 &&& (524287 : Int32)) ^^^ p1) ^^^ (-1 : Int32)) &&& (f_Sta_read (10 : Int32) sp)) &&& (15 : Int32)))) + (32 : Int32))), (8, .int ((((-2147483648 : Int32) + ((128 : Int32) * p0)) + (ush p1 (10 : Int32))) + (64 : Int32))), (5, .int (f_Sta_read (10 : Int32) sp)), (4, .int (((-2147483648 : Int32) + ((128 : Int32) * p0)) + (ush p1 (10 : Int32)))), (3, .int ((p0 &&& (524287 : Int32)) ^^^ p1)), (0, .ref aQ), (1, .int p0), (2, .int p1)]) hx hb d_Map_findEntry_57 hl (by decide) rfl (fun ls hl => ?_)
                            refine lv_iload hx hb d_Map_findEntry_59 (lv_at hl 1 rfl) ?_
                            refine lv_bipush (v := (8 : Int32)) hx hb d_Map_findEntry_61 (by decide) ?_
                            refine lv_icmp_ge (tgt := 71) hx hb d_Map_findEntry_63 (by decide) (fun h55 => ?_) (fun h55 => ?_)
                            rotate_left
                            · exact absurd (by decide) h55
                            refine lv_iload hx hb d_Map_findEntry_71 (lv_at hl 5 rfl) ?_
                            refine lv_bipush (v := (64 : Int32)) hx hb d_Map_findEntry_73 (by decide) ?_
                            refine lv_iadd hx hb d_Map_findEntry_75 ?_
                            refine lv_istore (lv' := [(8, .int ((((-2147483648 : Int32) + ((128 : Int32) * p0)) + (ush p1 (10 : Int32))) + (64 : Int32))), (7, .int (((p0 &&& (524287 : Int32)) ^^^ p1) ^^^ (-1 : Int32))), (6, .int (13 : Int32)), (9, .int ((((f_Sta_read (10 : Int32) sp) &&& (64512 : Int32)) + ((64 : Int32) * (((((p0 &&& (524287 : Int32)) ^^^ p1) ^^^ (-1 : Int32)) &&& (f_Sta_read (10 : Int32) sp)) &&& (15 : Int32)))) + (32 : Int32))), (5, .int (f_Sta_read (10 : Int32) sp)), (4, .int (((-2147483648 : Int32) + ((128 : Int32) * p0)) + (ush p1 (10 : Int32)))), (3, .int ((p0 &&& (524287 : Int32)) ^^^ p1)), (0, .ref aQ), (1, .int p0), (2, .int p1)]) hx hb d_Map_findEntry_76 hl (by decide) rfl (fun ls hl => ?_)
                            refine lv_iload hx hb d_Map_findEntry_78 (lv_at hl 4 rfl) ?_
                            refine lv_ldc (v := (64512 : Int32)) hx hb hown (hB _ mw_337) d_Map_findEntry_80 ?_
                            refine lv_iand hx hb d_Map_findEntry_82 ?_
                            refine lv_bipush (v := (64 : Int32)) hx hb d_Map_findEntry_83 (by decide) ?_
                            refine lv_iload hx hb d_Map_findEntry_85 (lv_at hl 1 rfl) ?_
                            refine lv_iload hx hb d_Map_findEntry_87 (lv_at hl 4 rfl) ?_
                            refine lv_iand hx hb d_Map_findEntry_89 ?_
                            refine lv_bipush (v := (15 : Int32)) hx hb d_Map_findEntry_90 (by decide) ?_
                            refine lv_iand hx hb d_Map_findEntry_92 ?_
                            refine lv_imul hx hb d_Map_findEntry_93 ?_
                            refine lv_iadd hx hb d_Map_findEntry_94 ?_
                            refine lv_bipush (v := (8 : Int32)) hx hb d_Map_findEntry_95 (by decide) ?_
                            refine lv_iload hx hb d_Map_findEntry_97 (lv_at hl 2 rfl) ?_
                            refine lv_bipush (v := (7 : Int32)) hx hb d_Map_findEntry_99 (by decide) ?_
                            refine lv_iand hx hb d_Map_findEntry_101 ?_
                            refine k_fold (5 : Int32) (by decide) ?_
                            refine lv_imul hx hb d_Map_findEntry_102 ?_
                            refine k_fold (40 : Int32) (by decide) ?_
                            refine lv_iadd hx hb d_Map_findEntry_103 ?_
                            refine lv_istore (lv' := [(9, .int ((((f_Sta_read (10 : Int32) sp) &&& (64512 : Int32)) + ((64 : Int32) * (((((p0 &&& (524287 : Int32)) ^^^ p1) ^^^ (-1 : Int32)) &&& (f_Sta_read (10 : Int32) sp)) &&& (15 : Int32)))) + (40 : Int32))), (8, .int ((((-2147483648 : Int32) + ((128 : Int32) * p0)) + (ush p1 (10 : Int32))) + (64 : Int32))), (7, .int (((p0 &&& (524287 : Int32)) ^^^ p1) ^^^ (-1 : Int32))), (6, .int (13 : Int32)), (5, .int (f_Sta_read (10 : Int32) sp)), (4, .int (((-2147483648 : Int32) + ((128 : Int32) * p0)) + (ush p1 (10 : Int32)))), (3, .int ((p0 &&& (524287 : Int32)) ^^^ p1)), (0, .ref aQ), (1, .int p0), (2, .int p1)]) hx hb d_Map_findEntry_104 hl (by decide) rfl (fun ls hl => ?_)
                            refine lv_aload_n hx hb d_Map_findEntry_106 rfl (lv_at hl 7 rfl) ?_
                            refine va_get (D := D) (ci := 7) (v := .ref aM) (C := "MappedProcessor$Mapper") (T := T_Map) (N := 3) hx hb hB iw_Map hown hK hP 5 rfl rfl 0 (by decide) (hB _ mw_64) (fun _ h9 => h9) rfl d_Map_findEntry_107 ?_
                            refine lv_iload hx hb d_Map_findEntry_110 (lv_at hl 0 rfl) ?_
                            refine k_cVi (As := [.int ((((f_Sta_read (10 : Int32) sp) &&& (64512 : Int32)) + ((64 : Int32) * (((((p0 &&& (524287 : Int32)) ^^^ p1) ^^^ (-1 : Int32)) &&& (f_Sta_read (10 : Int32) sp)) &&& (15 : Int32)))) + (40 : Int32))]) (rest := []) (wr := [(aS, .inr (9, [.ref aG, .ref aX, .int nx, .int lt, .int sm, .int ex])), (aG, .inl (cG, 32, .inl g)), (aX, .inl (cX, 64, .inl sp)), (aQ, .inr (7, [.ref aM, .ref aS, .int en]))]) (wj := [(aM, .inr (8, [.ref aW])), (aW, .inl (cW, 16384, .inl w)), (aS, .inr (9, [.ref aG, .ref aX, .int nx, .int lt, .int sm, .int ex])), (aG, .inl (cG, 32, .inl g)), (aX, .inl (cX, 64, .inl sp)), (aQ, .inr (7, [.ref aM, .ref aS, .int en]))]) ⟨hx, hb, hml, hown, hB⟩ (c_Mem_at l D aM aW cW w ((((f_Sta_read (10 : Int32) sp) &&& (64512 : Int32)) + ((64 : Int32) * (((((p0 &&& (524287 : Int32)) ^^^ p1) ^^^ (-1 : Int32)) &&& (f_Sta_read (10 : Int32) sp)) &&& (15 : Int32)))) + (40 : Int32))) yl_Mem_at mw_338 hK hN hP hD hS hA [0] [0, 1] [2, 3, 4, 5] [4, 5, 0, 1, 2, 3] rfl rfl rfl rfl (by decide +kernel) 0 rfl rfl rfl rfl hl.1 rfl (Nat.le_of_ble_eq_true rfl) ⟨Nat.le_of_ble_eq_true rfl, Nat.le_of_ble_eq_true rfl⟩ d_Map_findEntry_112 ⟨Nat.le_of_ble_eq_true rfl, Nat.le_of_ble_eq_true rfl⟩ (fun H locs hP hD hS => ?_)
                            refine lv_iload hx hb d_Map_findEntry_115 (lv_at hl 1 rfl) ?_
                            refine lv_icmp_ne (tgt := 125) hx hb d_Map_findEntry_117 (by decide) (fun (h56 : ¬ (f_Mem_at ((((f_Sta_read (10 : Int32) sp) &&& (64512 : Int32)) + ((64 : Int32) * (((((p0 &&& (524287 : Int32)) ^^^ p1) ^^^ (-1 : Int32)) &&& (f_Sta_read (10 : Int32) sp)) &&& (15 : Int32)))) + (40 : Int32)) w) = ((((-2147483648 : Int32) + ((128 : Int32) * p0)) + (ush p1 (10 : Int32))) + (64 : Int32))) => ?_) (fun (h56 : (f_Mem_at ((((f_Sta_read (10 : Int32) sp) &&& (64512 : Int32)) + ((64 : Int32) * (((((p0 &&& (524287 : Int32)) ^^^ p1) ^^^ (-1 : Int32)) &&& (f_Sta_read (10 : Int32) sp)) &&& (15 : Int32)))) + (40 : Int32)) w) = ((((-2147483648 : Int32) + ((128 : Int32) * p0)) + (ush p1 (10 : Int32))) + (64 : Int32))) => ?_)
                            · refine lv_iinc (v := (14 : Int32)) (lv' := [(6, .int (14 : Int32)), (9, .int ((((f_Sta_read (10 : Int32) sp) &&& (64512 : Int32)) + ((64 : Int32) * (((((p0 &&& (524287 : Int32)) ^^^ p1) ^^^ (-1 : Int32)) &&& (f_Sta_read (10 : Int32) sp)) &&& (15 : Int32)))) + (40 : Int32))), (8, .int ((((-2147483648 : Int32) + ((128 : Int32) * p0)) + (ush p1 (10 : Int32))) + (64 : Int32))), (7, .int (((p0 &&& (524287 : Int32)) ^^^ p1) ^^^ (-1 : Int32))), (5, .int (f_Sta_read (10 : Int32) sp)), (4, .int (((-2147483648 : Int32) + ((128 : Int32) * p0)) + (ush p1 (10 : Int32)))), (3, .int ((p0 &&& (524287 : Int32)) ^^^ p1)), (0, .ref aQ), (1, .int p0), (2, .int p1)]) hx hb d_Map_findEntry_125 hl (k := 3) rfl (by decide) (by decide) rfl (fun ls hl => ?_)
                              refine lv_goto (tgt := 36) hx hb d_Map_findEntry_128 (by decide) ?_
                              refine lv_iload hx hb d_Map_findEntry_36 (lv_at hl 0 rfl) ?_
                              refine lv_bipush (v := (16 : Int32)) hx hb d_Map_findEntry_38 (by decide) ?_
                              refine lv_icmp_ge (tgt := 131) hx hb d_Map_findEntry_40 (by decide) (fun h57 => ?_) (fun h57 => ?_)
                              · exact absurd h57 (by decide)
                              refine lv_iload hx hb d_Map_findEntry_43 (lv_at hl 0 rfl) ?_
                              refine lv_bipush (v := (8 : Int32)) hx hb d_Map_findEntry_45 (by decide) ?_
                              refine lv_icmp_ge (tgt := 54) hx hb d_Map_findEntry_47 (by decide) (fun h58 => ?_) (fun h58 => ?_)
                              rotate_left
                              · exact absurd (by decide) h58
                              refine lv_iload_n hx hb d_Map_findEntry_54 rfl (lv_at hl 6 rfl) ?_
                              refine lv_iconst (v := (-1 : Int32)) hx hb d_Map_findEntry_55 (by decide) ?_
                              refine lv_ixor hx hb d_Map_findEntry_56 ?_
                              refine lv_istore (lv' := [(7, .int (((p0 &&& (524287 : Int32)) ^^^ p1) ^^^ (-1 : Int32))), (6, .int (14 : Int32)), (9, .int ((((f_Sta_read (10 : Int32) sp) &&& (64512 : Int32)) + ((64 : Int32) * (((((p0 &&& (524287 : Int32)) ^^^ p1) ^^^ (-1 : Int32)) &&& (f_Sta_read (10 : Int32) sp)) &&& (15 : Int32)))) + (40 : Int32))), (8, .int ((((-2147483648 : Int32) + ((128 : Int32) * p0)) + (ush p1 (10 : Int32))) + (64 : Int32))), (5, .int (f_Sta_read (10 : Int32) sp)), (4, .int (((-2147483648 : Int32) + ((128 : Int32) * p0)) + (ush p1 (10 : Int32)))), (3, .int ((p0 &&& (524287 : Int32)) ^^^ p1)), (0, .ref aQ), (1, .int p0), (2, .int p1)]) hx hb d_Map_findEntry_57 hl (by decide) rfl (fun ls hl => ?_)
                              refine lv_iload hx hb d_Map_findEntry_59 (lv_at hl 1 rfl) ?_
                              refine lv_bipush (v := (8 : Int32)) hx hb d_Map_findEntry_61 (by decide) ?_
                              refine lv_icmp_ge (tgt := 71) hx hb d_Map_findEntry_63 (by decide) (fun h59 => ?_) (fun h59 => ?_)
                              rotate_left
                              · exact absurd (by decide) h59
                              refine lv_iload hx hb d_Map_findEntry_71 (lv_at hl 5 rfl) ?_
                              refine lv_bipush (v := (64 : Int32)) hx hb d_Map_findEntry_73 (by decide) ?_
                              refine lv_iadd hx hb d_Map_findEntry_75 ?_
                              refine lv_istore (lv' := [(8, .int ((((-2147483648 : Int32) + ((128 : Int32) * p0)) + (ush p1 (10 : Int32))) + (64 : Int32))), (7, .int (((p0 &&& (524287 : Int32)) ^^^ p1) ^^^ (-1 : Int32))), (6, .int (14 : Int32)), (9, .int ((((f_Sta_read (10 : Int32) sp) &&& (64512 : Int32)) + ((64 : Int32) * (((((p0 &&& (524287 : Int32)) ^^^ p1) ^^^ (-1 : Int32)) &&& (f_Sta_read (10 : Int32) sp)) &&& (15 : Int32)))) + (40 : Int32))), (5, .int (f_Sta_read (10 : Int32) sp)), (4, .int (((-2147483648 : Int32) + ((128 : Int32) * p0)) + (ush p1 (10 : Int32)))), (3, .int ((p0 &&& (524287 : Int32)) ^^^ p1)), (0, .ref aQ), (1, .int p0), (2, .int p1)]) hx hb d_Map_findEntry_76 hl (by decide) rfl (fun ls hl => ?_)
                              refine lv_iload hx hb d_Map_findEntry_78 (lv_at hl 4 rfl) ?_
                              refine lv_ldc (v := (64512 : Int32)) hx hb hown (hB _ mw_337) d_Map_findEntry_80 ?_
                              refine lv_iand hx hb d_Map_findEntry_82 ?_
                              refine lv_bipush (v := (64 : Int32)) hx hb d_Map_findEntry_83 (by decide) ?_
                              refine lv_iload hx hb d_Map_findEntry_85 (lv_at hl 1 rfl) ?_
                              refine lv_iload hx hb d_Map_findEntry_87 (lv_at hl 4 rfl) ?_
                              refine lv_iand hx hb d_Map_findEntry_89 ?_
                              refine lv_bipush (v := (15 : Int32)) hx hb d_Map_findEntry_90 (by decide) ?_
                              refine lv_iand hx hb d_Map_findEntry_92 ?_
                              refine lv_imul hx hb d_Map_findEntry_93 ?_
                              refine lv_iadd hx hb d_Map_findEntry_94 ?_
                              refine lv_bipush (v := (8 : Int32)) hx hb d_Map_findEntry_95 (by decide) ?_
                              refine lv_iload hx hb d_Map_findEntry_97 (lv_at hl 2 rfl) ?_
                              refine lv_bipush (v := (7 : Int32)) hx hb d_Map_findEntry_99 (by decide) ?_
                              refine lv_iand hx hb d_Map_findEntry_101 ?_
                              refine k_fold (6 : Int32) (by decide) ?_
                              refine lv_imul hx hb d_Map_findEntry_102 ?_
                              refine k_fold (48 : Int32) (by decide) ?_
                              refine lv_iadd hx hb d_Map_findEntry_103 ?_
                              refine lv_istore (lv' := [(9, .int ((((f_Sta_read (10 : Int32) sp) &&& (64512 : Int32)) + ((64 : Int32) * (((((p0 &&& (524287 : Int32)) ^^^ p1) ^^^ (-1 : Int32)) &&& (f_Sta_read (10 : Int32) sp)) &&& (15 : Int32)))) + (48 : Int32))), (8, .int ((((-2147483648 : Int32) + ((128 : Int32) * p0)) + (ush p1 (10 : Int32))) + (64 : Int32))), (7, .int (((p0 &&& (524287 : Int32)) ^^^ p1) ^^^ (-1 : Int32))), (6, .int (14 : Int32)), (5, .int (f_Sta_read (10 : Int32) sp)), (4, .int (((-2147483648 : Int32) + ((128 : Int32) * p0)) + (ush p1 (10 : Int32)))), (3, .int ((p0 &&& (524287 : Int32)) ^^^ p1)), (0, .ref aQ), (1, .int p0), (2, .int p1)]) hx hb d_Map_findEntry_104 hl (by decide) rfl (fun ls hl => ?_)
                              refine lv_aload_n hx hb d_Map_findEntry_106 rfl (lv_at hl 7 rfl) ?_
                              refine va_get (D := D) (ci := 7) (v := .ref aM) (C := "MappedProcessor$Mapper") (T := T_Map) (N := 3) hx hb hB iw_Map hown hK hP 5 rfl rfl 0 (by decide) (hB _ mw_64) (fun _ h9 => h9) rfl d_Map_findEntry_107 ?_
                              refine lv_iload hx hb d_Map_findEntry_110 (lv_at hl 0 rfl) ?_
                              refine k_cVi (As := [.int ((((f_Sta_read (10 : Int32) sp) &&& (64512 : Int32)) + ((64 : Int32) * (((((p0 &&& (524287 : Int32)) ^^^ p1) ^^^ (-1 : Int32)) &&& (f_Sta_read (10 : Int32) sp)) &&& (15 : Int32)))) + (48 : Int32))]) (rest := []) (wr := [(aS, .inr (9, [.ref aG, .ref aX, .int nx, .int lt, .int sm, .int ex])), (aG, .inl (cG, 32, .inl g)), (aX, .inl (cX, 64, .inl sp)), (aQ, .inr (7, [.ref aM, .ref aS, .int en]))]) (wj := [(aM, .inr (8, [.ref aW])), (aW, .inl (cW, 16384, .inl w)), (aS, .inr (9, [.ref aG, .ref aX, .int nx, .int lt, .int sm, .int ex])), (aG, .inl (cG, 32, .inl g)), (aX, .inl (cX, 64, .inl sp)), (aQ, .inr (7, [.ref aM, .ref aS, .int en]))]) ⟨hx, hb, hml, hown, hB⟩ (c_Mem_at l D aM aW cW w ((((f_Sta_read (10 : Int32) sp) &&& (64512 : Int32)) + ((64 : Int32) * (((((p0 &&& (524287 : Int32)) ^^^ p1) ^^^ (-1 : Int32)) &&& (f_Sta_read (10 : Int32) sp)) &&& (15 : Int32)))) + (48 : Int32))) yl_Mem_at mw_338 hK hN hP hD hS hA [0] [0, 1] [2, 3, 4, 5] [4, 5, 0, 1, 2, 3] rfl rfl rfl rfl (by decide +kernel) 0 rfl rfl rfl rfl hl.1 rfl (Nat.le_of_ble_eq_true rfl) ⟨Nat.le_of_ble_eq_true rfl, Nat.le_of_ble_eq_true rfl⟩ d_Map_findEntry_112 ⟨Nat.le_of_ble_eq_true rfl, Nat.le_of_ble_eq_true rfl⟩ (fun H locs hP hD hS => ?_)
                              refine lv_iload hx hb d_Map_findEntry_115 (lv_at hl 1 rfl) ?_
                              refine lv_icmp_ne (tgt := 125) hx hb d_Map_findEntry_117 (by decide) (fun (h60 : ¬ (f_Mem_at ((((f_Sta_read (10 : Int32) sp) &&& (64512 : Int32)) + ((64 : Int32) * (((((p0 &&& (524287 : Int32)) ^^^ p1) ^^^ (-1 : Int32)) &&& (f_Sta_read (10 : Int32) sp)) &&& (15 : Int32)))) + (48 : Int32)) w) = ((((-2147483648 : Int32) + ((128 : Int32) * p0)) + (ush p1 (10 : Int32))) + (64 : Int32))) => ?_) (fun (h60 : (f_Mem_at ((((f_Sta_read (10 : Int32) sp) &&& (64512 : Int32)) + ((64 : Int32) * (((((p0 &&& (524287 : Int32)) ^^^ p1) ^^^ (-1 : Int32)) &&& (f_Sta_read (10 : Int32) sp)) &&& (15 : Int32)))) + (48 : Int32)) w) = ((((-2147483648 : Int32) + ((128 : Int32) * p0)) + (ush p1 (10 : Int32))) + (64 : Int32))) => ?_)
                              · refine lv_iinc (v := (15 : Int32)) (lv' := [(6, .int (15 : Int32)), (9, .int ((((f_Sta_read (10 : Int32) sp) &&& (64512 : Int32)) + ((64 : Int32) * (((((p0 &&& (524287 : Int32)) ^^^ p1) ^^^ (-1 : Int32)) &&& (f_Sta_read (10 : Int32) sp)) &&& (15 : Int32)))) + (48 : Int32))), (8, .int ((((-2147483648 : Int32) + ((128 : Int32) * p0)) + (ush p1 (10 : Int32))) + (64 : Int32))), (7, .int (((p0 &&& (524287 : Int32)) ^^^ p1) ^^^ (-1 : Int32))), (5, .int (f_Sta_read (10 : Int32) sp)), (4, .int (((-2147483648 : Int32) + ((128 : Int32) * p0)) + (ush p1 (10 : Int32)))), (3, .int ((p0 &&& (524287 : Int32)) ^^^ p1)), (0, .ref aQ), (1, .int p0), (2, .int p1)]) hx hb d_Map_findEntry_125 hl (k := 3) rfl (by decide) (by decide) rfl (fun ls hl => ?_)
                                refine lv_goto (tgt := 36) hx hb d_Map_findEntry_128 (by decide) ?_
                                refine lv_iload hx hb d_Map_findEntry_36 (lv_at hl 0 rfl) ?_
                                refine lv_bipush (v := (16 : Int32)) hx hb d_Map_findEntry_38 (by decide) ?_
                                refine lv_icmp_ge (tgt := 131) hx hb d_Map_findEntry_40 (by decide) (fun h61 => ?_) (fun h61 => ?_)
                                · exact absurd h61 (by decide)
                                refine lv_iload hx hb d_Map_findEntry_43 (lv_at hl 0 rfl) ?_
                                refine lv_bipush (v := (8 : Int32)) hx hb d_Map_findEntry_45 (by decide) ?_
                                refine lv_icmp_ge (tgt := 54) hx hb d_Map_findEntry_47 (by decide) (fun h62 => ?_) (fun h62 => ?_)
                                rotate_left
                                · exact absurd (by decide) h62
                                refine lv_iload_n hx hb d_Map_findEntry_54 rfl (lv_at hl 6 rfl) ?_
                                refine lv_iconst (v := (-1 : Int32)) hx hb d_Map_findEntry_55 (by decide) ?_
                                refine lv_ixor hx hb d_Map_findEntry_56 ?_
                                refine lv_istore (lv' := [(7, .int (((p0 &&& (524287 : Int32)) ^^^ p1) ^^^ (-1 : Int32))), (6, .int (15 : Int32)), (9, .int ((((f_Sta_read (10 : Int32) sp) &&& (64512 : Int32)) + ((64 : Int32) * (((((p0 &&& (524287 : Int32)) ^^^ p1) ^^^ (-1 : Int32)) &&& (f_Sta_read (10 : Int32) sp)) &&& (15 : Int32)))) + (48 : Int32))), (8, .int ((((-2147483648 : Int32) + ((128 : Int32) * p0)) + (ush p1 (10 : Int32))) + (64 : Int32))), (5, .int (f_Sta_read (10 : Int32) sp)), (4, .int (((-2147483648 : Int32) + ((128 : Int32) * p0)) + (ush p1 (10 : Int32)))), (3, .int ((p0 &&& (524287 : Int32)) ^^^ p1)), (0, .ref aQ), (1, .int p0), (2, .int p1)]) hx hb d_Map_findEntry_57 hl (by decide) rfl (fun ls hl => ?_)
                                refine lv_iload hx hb d_Map_findEntry_59 (lv_at hl 1 rfl) ?_
                                refine lv_bipush (v := (8 : Int32)) hx hb d_Map_findEntry_61 (by decide) ?_
                                refine lv_icmp_ge (tgt := 71) hx hb d_Map_findEntry_63 (by decide) (fun h63 => ?_) (fun h63 => ?_)
                                rotate_left
                                · exact absurd (by decide) h63
                                refine lv_iload hx hb d_Map_findEntry_71 (lv_at hl 5 rfl) ?_
                                refine lv_bipush (v := (64 : Int32)) hx hb d_Map_findEntry_73 (by decide) ?_
                                refine lv_iadd hx hb d_Map_findEntry_75 ?_
                                refine lv_istore (lv' := [(8, .int ((((-2147483648 : Int32) + ((128 : Int32) * p0)) + (ush p1 (10 : Int32))) + (64 : Int32))), (7, .int (((p0 &&& (524287 : Int32)) ^^^ p1) ^^^ (-1 : Int32))), (6, .int (15 : Int32)), (9, .int ((((f_Sta_read (10 : Int32) sp) &&& (64512 : Int32)) + ((64 : Int32) * (((((p0 &&& (524287 : Int32)) ^^^ p1) ^^^ (-1 : Int32)) &&& (f_Sta_read (10 : Int32) sp)) &&& (15 : Int32)))) + (48 : Int32))), (5, .int (f_Sta_read (10 : Int32) sp)), (4, .int (((-2147483648 : Int32) + ((128 : Int32) * p0)) + (ush p1 (10 : Int32)))), (3, .int ((p0 &&& (524287 : Int32)) ^^^ p1)), (0, .ref aQ), (1, .int p0), (2, .int p1)]) hx hb d_Map_findEntry_76 hl (by decide) rfl (fun ls hl => ?_)
                                refine lv_iload hx hb d_Map_findEntry_78 (lv_at hl 4 rfl) ?_
                                refine lv_ldc (v := (64512 : Int32)) hx hb hown (hB _ mw_337) d_Map_findEntry_80 ?_
                                refine lv_iand hx hb d_Map_findEntry_82 ?_
                                refine lv_bipush (v := (64 : Int32)) hx hb d_Map_findEntry_83 (by decide) ?_
                                refine lv_iload hx hb d_Map_findEntry_85 (lv_at hl 1 rfl) ?_
                                refine lv_iload hx hb d_Map_findEntry_87 (lv_at hl 4 rfl) ?_
                                refine lv_iand hx hb d_Map_findEntry_89 ?_
                                refine lv_bipush (v := (15 : Int32)) hx hb d_Map_findEntry_90 (by decide) ?_
                                refine lv_iand hx hb d_Map_findEntry_92 ?_
                                refine lv_imul hx hb d_Map_findEntry_93 ?_
                                refine lv_iadd hx hb d_Map_findEntry_94 ?_
                                refine lv_bipush (v := (8 : Int32)) hx hb d_Map_findEntry_95 (by decide) ?_
                                refine lv_iload hx hb d_Map_findEntry_97 (lv_at hl 2 rfl) ?_
                                refine lv_bipush (v := (7 : Int32)) hx hb d_Map_findEntry_99 (by decide) ?_
                                refine lv_iand hx hb d_Map_findEntry_101 ?_
                                refine k_fold (7 : Int32) (by decide) ?_
                                refine lv_imul hx hb d_Map_findEntry_102 ?_
                                refine k_fold (56 : Int32) (by decide) ?_
                                refine lv_iadd hx hb d_Map_findEntry_103 ?_
                                refine lv_istore (lv' := [(9, .int ((((f_Sta_read (10 : Int32) sp) &&& (64512 : Int32)) + ((64 : Int32) * (((((p0 &&& (524287 : Int32)) ^^^ p1) ^^^ (-1 : Int32)) &&& (f_Sta_read (10 : Int32) sp)) &&& (15 : Int32)))) + (56 : Int32))), (8, .int ((((-2147483648 : Int32) + ((128 : Int32) * p0)) + (ush p1 (10 : Int32))) + (64 : Int32))), (7, .int (((p0 &&& (524287 : Int32)) ^^^ p1) ^^^ (-1 : Int32))), (6, .int (15 : Int32)), (5, .int (f_Sta_read (10 : Int32) sp)), (4, .int (((-2147483648 : Int32) + ((128 : Int32) * p0)) + (ush p1 (10 : Int32)))), (3, .int ((p0 &&& (524287 : Int32)) ^^^ p1)), (0, .ref aQ), (1, .int p0), (2, .int p1)]) hx hb d_Map_findEntry_104 hl (by decide) rfl (fun ls hl => ?_)
                                refine lv_aload_n hx hb d_Map_findEntry_106 rfl (lv_at hl 7 rfl) ?_
                                refine va_get (D := D) (ci := 7) (v := .ref aM) (C := "MappedProcessor$Mapper") (T := T_Map) (N := 3) hx hb hB iw_Map hown hK hP 5 rfl rfl 0 (by decide) (hB _ mw_64) (fun _ h9 => h9) rfl d_Map_findEntry_107 ?_
                                refine lv_iload hx hb d_Map_findEntry_110 (lv_at hl 0 rfl) ?_
                                refine k_cVi (As := [.int ((((f_Sta_read (10 : Int32) sp) &&& (64512 : Int32)) + ((64 : Int32) * (((((p0 &&& (524287 : Int32)) ^^^ p1) ^^^ (-1 : Int32)) &&& (f_Sta_read (10 : Int32) sp)) &&& (15 : Int32)))) + (56 : Int32))]) (rest := []) (wr := [(aS, .inr (9, [.ref aG, .ref aX, .int nx, .int lt, .int sm, .int ex])), (aG, .inl (cG, 32, .inl g)), (aX, .inl (cX, 64, .inl sp)), (aQ, .inr (7, [.ref aM, .ref aS, .int en]))]) (wj := [(aM, .inr (8, [.ref aW])), (aW, .inl (cW, 16384, .inl w)), (aS, .inr (9, [.ref aG, .ref aX, .int nx, .int lt, .int sm, .int ex])), (aG, .inl (cG, 32, .inl g)), (aX, .inl (cX, 64, .inl sp)), (aQ, .inr (7, [.ref aM, .ref aS, .int en]))]) ⟨hx, hb, hml, hown, hB⟩ (c_Mem_at l D aM aW cW w ((((f_Sta_read (10 : Int32) sp) &&& (64512 : Int32)) + ((64 : Int32) * (((((p0 &&& (524287 : Int32)) ^^^ p1) ^^^ (-1 : Int32)) &&& (f_Sta_read (10 : Int32) sp)) &&& (15 : Int32)))) + (56 : Int32))) yl_Mem_at mw_338 hK hN hP hD hS hA [0] [0, 1] [2, 3, 4, 5] [4, 5, 0, 1, 2, 3] rfl rfl rfl rfl (by decide +kernel) 0 rfl rfl rfl rfl hl.1 rfl (Nat.le_of_ble_eq_true rfl) ⟨Nat.le_of_ble_eq_true rfl, Nat.le_of_ble_eq_true rfl⟩ d_Map_findEntry_112 ⟨Nat.le_of_ble_eq_true rfl, Nat.le_of_ble_eq_true rfl⟩ (fun H locs hP hD hS => ?_)
                                refine lv_iload hx hb d_Map_findEntry_115 (lv_at hl 1 rfl) ?_
                                refine lv_icmp_ne (tgt := 125) hx hb d_Map_findEntry_117 (by decide) (fun (h64 : ¬ (f_Mem_at ((((f_Sta_read (10 : Int32) sp) &&& (64512 : Int32)) + ((64 : Int32) * (((((p0 &&& (524287 : Int32)) ^^^ p1) ^^^ (-1 : Int32)) &&& (f_Sta_read (10 : Int32) sp)) &&& (15 : Int32)))) + (56 : Int32)) w) = ((((-2147483648 : Int32) + ((128 : Int32) * p0)) + (ush p1 (10 : Int32))) + (64 : Int32))) => ?_) (fun (h64 : (f_Mem_at ((((f_Sta_read (10 : Int32) sp) &&& (64512 : Int32)) + ((64 : Int32) * (((((p0 &&& (524287 : Int32)) ^^^ p1) ^^^ (-1 : Int32)) &&& (f_Sta_read (10 : Int32) sp)) &&& (15 : Int32)))) + (56 : Int32)) w) = ((((-2147483648 : Int32) + ((128 : Int32) * p0)) + (ush p1 (10 : Int32))) + (64 : Int32))) => ?_)
                                · refine lv_iinc (v := (16 : Int32)) (lv' := [(6, .int (16 : Int32)), (9, .int ((((f_Sta_read (10 : Int32) sp) &&& (64512 : Int32)) + ((64 : Int32) * (((((p0 &&& (524287 : Int32)) ^^^ p1) ^^^ (-1 : Int32)) &&& (f_Sta_read (10 : Int32) sp)) &&& (15 : Int32)))) + (56 : Int32))), (8, .int ((((-2147483648 : Int32) + ((128 : Int32) * p0)) + (ush p1 (10 : Int32))) + (64 : Int32))), (7, .int (((p0 &&& (524287 : Int32)) ^^^ p1) ^^^ (-1 : Int32))), (5, .int (f_Sta_read (10 : Int32) sp)), (4, .int (((-2147483648 : Int32) + ((128 : Int32) * p0)) + (ush p1 (10 : Int32)))), (3, .int ((p0 &&& (524287 : Int32)) ^^^ p1)), (0, .ref aQ), (1, .int p0), (2, .int p1)]) hx hb d_Map_findEntry_125 hl (k := 3) rfl (by decide) (by decide) rfl (fun ls hl => ?_)
                                  refine lv_goto (tgt := 36) hx hb d_Map_findEntry_128 (by decide) ?_
                                  refine lv_iload hx hb d_Map_findEntry_36 (lv_at hl 0 rfl) ?_
                                  refine lv_bipush (v := (16 : Int32)) hx hb d_Map_findEntry_38 (by decide) ?_
                                  refine lv_icmp_ge (tgt := 131) hx hb d_Map_findEntry_40 (by decide) (fun h65 => ?_) (fun h65 => ?_)
                                  rotate_left
                                  · exact absurd (by decide) h65
                                  refine lv_iconst (v := (-1 : Int32)) hx hb d_Map_findEntry_131 (by decide) ?_
                                  have ef : f_Map_findEntry p0 p1 w sp = (-1 : Int32) := by unfold f_Map_findEntry; rw [if_neg h4, if_neg h8, if_neg h12, if_neg h16, if_neg h20, if_neg h24, if_neg h28, if_neg h32, if_neg h36, if_neg h40, if_neg h44, if_neg h48, if_neg h52, if_neg h56, if_neg h60, if_neg h64]
                                  exact k_iret hx hb hr hlocks hK hP hD hS [0, 1, 2, 3, 4, 5] rfl rfl (by rw [ef] <;> rfl) d_Map_findEntry_132
                                · refine lv_iload hx hb d_Map_findEntry_120 (lv_at hl 0 rfl) ?_
                                  refine lv_iconst (v := (4 : Int32)) hx hb d_Map_findEntry_122 (by decide) ?_
                                  refine lv_iadd hx hb d_Map_findEntry_123 ?_
                                  have ef : f_Map_findEntry p0 p1 w sp = (((((f_Sta_read (10 : Int32) sp) &&& (64512 : Int32)) + ((64 : Int32) * (((((p0 &&& (524287 : Int32)) ^^^ p1) ^^^ (-1 : Int32)) &&& (f_Sta_read (10 : Int32) sp)) &&& (15 : Int32)))) + (56 : Int32)) + (4 : Int32)) := by unfold f_Map_findEntry; rw [if_neg h4, if_neg h8, if_neg h12, if_neg h16, if_neg h20, if_neg h24, if_neg h28, if_neg h32, if_neg h36, if_neg h40, if_neg h44, if_neg h48, if_neg h52, if_neg h56, if_neg h60, if_pos h64]
                                  exact k_iret hx hb hr hlocks hK hP hD hS [0, 1, 2, 3, 4, 5] rfl rfl (by rw [ef] <;> rfl) d_Map_findEntry_124
                              · refine lv_iload hx hb d_Map_findEntry_120 (lv_at hl 0 rfl) ?_
                                refine lv_iconst (v := (4 : Int32)) hx hb d_Map_findEntry_122 (by decide) ?_
                                refine lv_iadd hx hb d_Map_findEntry_123 ?_
                                have ef : f_Map_findEntry p0 p1 w sp = (((((f_Sta_read (10 : Int32) sp) &&& (64512 : Int32)) + ((64 : Int32) * (((((p0 &&& (524287 : Int32)) ^^^ p1) ^^^ (-1 : Int32)) &&& (f_Sta_read (10 : Int32) sp)) &&& (15 : Int32)))) + (48 : Int32)) + (4 : Int32)) := by unfold f_Map_findEntry; rw [if_neg h4, if_neg h8, if_neg h12, if_neg h16, if_neg h20, if_neg h24, if_neg h28, if_neg h32, if_neg h36, if_neg h40, if_neg h44, if_neg h48, if_neg h52, if_neg h56, if_pos h60]
                                exact k_iret hx hb hr hlocks hK hP hD hS [0, 1, 2, 3, 4, 5] rfl rfl (by rw [ef] <;> rfl) d_Map_findEntry_124
                            · refine lv_iload hx hb d_Map_findEntry_120 (lv_at hl 0 rfl) ?_
                              refine lv_iconst (v := (4 : Int32)) hx hb d_Map_findEntry_122 (by decide) ?_
                              refine lv_iadd hx hb d_Map_findEntry_123 ?_
                              have ef : f_Map_findEntry p0 p1 w sp = (((((f_Sta_read (10 : Int32) sp) &&& (64512 : Int32)) + ((64 : Int32) * (((((p0 &&& (524287 : Int32)) ^^^ p1) ^^^ (-1 : Int32)) &&& (f_Sta_read (10 : Int32) sp)) &&& (15 : Int32)))) + (40 : Int32)) + (4 : Int32)) := by unfold f_Map_findEntry; rw [if_neg h4, if_neg h8, if_neg h12, if_neg h16, if_neg h20, if_neg h24, if_neg h28, if_neg h32, if_neg h36, if_neg h40, if_neg h44, if_neg h48, if_neg h52, if_pos h56]
                              exact k_iret hx hb hr hlocks hK hP hD hS [0, 1, 2, 3, 4, 5] rfl rfl (by rw [ef] <;> rfl) d_Map_findEntry_124
                          · refine lv_iload hx hb d_Map_findEntry_120 (lv_at hl 0 rfl) ?_
                            refine lv_iconst (v := (4 : Int32)) hx hb d_Map_findEntry_122 (by decide) ?_
                            refine lv_iadd hx hb d_Map_findEntry_123 ?_
                            have ef : f_Map_findEntry p0 p1 w sp = (((((f_Sta_read (10 : Int32) sp) &&& (64512 : Int32)) + ((64 : Int32) * (((((p0 &&& (524287 : Int32)) ^^^ p1) ^^^ (-1 : Int32)) &&& (f_Sta_read (10 : Int32) sp)) &&& (15 : Int32)))) + (32 : Int32)) + (4 : Int32)) := by unfold f_Map_findEntry; rw [if_neg h4, if_neg h8, if_neg h12, if_neg h16, if_neg h20, if_neg h24, if_neg h28, if_neg h32, if_neg h36, if_neg h40, if_neg h44, if_neg h48, if_pos h52]
                            exact k_iret hx hb hr hlocks hK hP hD hS [0, 1, 2, 3, 4, 5] rfl rfl (by rw [ef] <;> rfl) d_Map_findEntry_124
                        · refine lv_iload hx hb d_Map_findEntry_120 (lv_at hl 0 rfl) ?_
                          refine lv_iconst (v := (4 : Int32)) hx hb d_Map_findEntry_122 (by decide) ?_
                          refine lv_iadd hx hb d_Map_findEntry_123 ?_
                          have ef : f_Map_findEntry p0 p1 w sp = (((((f_Sta_read (10 : Int32) sp) &&& (64512 : Int32)) + ((64 : Int32) * (((((p0 &&& (524287 : Int32)) ^^^ p1) ^^^ (-1 : Int32)) &&& (f_Sta_read (10 : Int32) sp)) &&& (15 : Int32)))) + (24 : Int32)) + (4 : Int32)) := by unfold f_Map_findEntry; rw [if_neg h4, if_neg h8, if_neg h12, if_neg h16, if_neg h20, if_neg h24, if_neg h28, if_neg h32, if_neg h36, if_neg h40, if_neg h44, if_pos h48]
                          exact k_iret hx hb hr hlocks hK hP hD hS [0, 1, 2, 3, 4, 5] rfl rfl (by rw [ef] <;> rfl) d_Map_findEntry_124
                      · refine lv_iload hx hb d_Map_findEntry_120 (lv_at hl 0 rfl) ?_
                        refine lv_iconst (v := (4 : Int32)) hx hb d_Map_findEntry_122 (by decide) ?_
                        refine lv_iadd hx hb d_Map_findEntry_123 ?_
                        have ef : f_Map_findEntry p0 p1 w sp = (((((f_Sta_read (10 : Int32) sp) &&& (64512 : Int32)) + ((64 : Int32) * (((((p0 &&& (524287 : Int32)) ^^^ p1) ^^^ (-1 : Int32)) &&& (f_Sta_read (10 : Int32) sp)) &&& (15 : Int32)))) + (16 : Int32)) + (4 : Int32)) := by unfold f_Map_findEntry; rw [if_neg h4, if_neg h8, if_neg h12, if_neg h16, if_neg h20, if_neg h24, if_neg h28, if_neg h32, if_neg h36, if_neg h40, if_pos h44]
                        exact k_iret hx hb hr hlocks hK hP hD hS [0, 1, 2, 3, 4, 5] rfl rfl (by rw [ef] <;> rfl) d_Map_findEntry_124
                    · refine lv_iload hx hb d_Map_findEntry_120 (lv_at hl 0 rfl) ?_
                      refine lv_iconst (v := (4 : Int32)) hx hb d_Map_findEntry_122 (by decide) ?_
                      refine lv_iadd hx hb d_Map_findEntry_123 ?_
                      have ef : f_Map_findEntry p0 p1 w sp = (((((f_Sta_read (10 : Int32) sp) &&& (64512 : Int32)) + ((64 : Int32) * (((((p0 &&& (524287 : Int32)) ^^^ p1) ^^^ (-1 : Int32)) &&& (f_Sta_read (10 : Int32) sp)) &&& (15 : Int32)))) + (8 : Int32)) + (4 : Int32)) := by unfold f_Map_findEntry; rw [if_neg h4, if_neg h8, if_neg h12, if_neg h16, if_neg h20, if_neg h24, if_neg h28, if_neg h32, if_neg h36, if_pos h40]
                      exact k_iret hx hb hr hlocks hK hP hD hS [0, 1, 2, 3, 4, 5] rfl rfl (by rw [ef] <;> rfl) d_Map_findEntry_124
                  · refine lv_iload hx hb d_Map_findEntry_120 (lv_at hl 0 rfl) ?_
                    refine lv_iconst (v := (4 : Int32)) hx hb d_Map_findEntry_122 (by decide) ?_
                    refine lv_iadd hx hb d_Map_findEntry_123 ?_
                    have ef : f_Map_findEntry p0 p1 w sp = (((((f_Sta_read (10 : Int32) sp) &&& (64512 : Int32)) + ((64 : Int32) * (((((p0 &&& (524287 : Int32)) ^^^ p1) ^^^ (-1 : Int32)) &&& (f_Sta_read (10 : Int32) sp)) &&& (15 : Int32)))) + (0 : Int32)) + (4 : Int32)) := by unfold f_Map_findEntry; rw [if_neg h4, if_neg h8, if_neg h12, if_neg h16, if_neg h20, if_neg h24, if_neg h28, if_neg h32, if_pos h36]
                    exact k_iret hx hb hr hlocks hK hP hD hS [0, 1, 2, 3, 4, 5] rfl rfl (by rw [ef] <;> rfl) d_Map_findEntry_124
                · refine lv_iload hx hb d_Map_findEntry_120 (lv_at hl 0 rfl) ?_
                  refine lv_iconst (v := (4 : Int32)) hx hb d_Map_findEntry_122 (by decide) ?_
                  refine lv_iadd hx hb d_Map_findEntry_123 ?_
                  have ef : f_Map_findEntry p0 p1 w sp = (((((f_Sta_read (10 : Int32) sp) &&& (64512 : Int32)) + ((64 : Int32) * ((((p0 &&& (524287 : Int32)) ^^^ p1) &&& (f_Sta_read (10 : Int32) sp)) &&& (15 : Int32)))) + (56 : Int32)) + (4 : Int32)) := by unfold f_Map_findEntry; rw [if_neg h4, if_neg h8, if_neg h12, if_neg h16, if_neg h20, if_neg h24, if_neg h28, if_pos h32]
                  exact k_iret hx hb hr hlocks hK hP hD hS [0, 1, 2, 3, 4, 5] rfl rfl (by rw [ef] <;> rfl) d_Map_findEntry_124
              · refine lv_iload hx hb d_Map_findEntry_120 (lv_at hl 0 rfl) ?_
                refine lv_iconst (v := (4 : Int32)) hx hb d_Map_findEntry_122 (by decide) ?_
                refine lv_iadd hx hb d_Map_findEntry_123 ?_
                have ef : f_Map_findEntry p0 p1 w sp = (((((f_Sta_read (10 : Int32) sp) &&& (64512 : Int32)) + ((64 : Int32) * ((((p0 &&& (524287 : Int32)) ^^^ p1) &&& (f_Sta_read (10 : Int32) sp)) &&& (15 : Int32)))) + (48 : Int32)) + (4 : Int32)) := by unfold f_Map_findEntry; rw [if_neg h4, if_neg h8, if_neg h12, if_neg h16, if_neg h20, if_neg h24, if_pos h28]
                exact k_iret hx hb hr hlocks hK hP hD hS [0, 1, 2, 3, 4, 5] rfl rfl (by rw [ef] <;> rfl) d_Map_findEntry_124
            · refine lv_iload hx hb d_Map_findEntry_120 (lv_at hl 0 rfl) ?_
              refine lv_iconst (v := (4 : Int32)) hx hb d_Map_findEntry_122 (by decide) ?_
              refine lv_iadd hx hb d_Map_findEntry_123 ?_
              have ef : f_Map_findEntry p0 p1 w sp = (((((f_Sta_read (10 : Int32) sp) &&& (64512 : Int32)) + ((64 : Int32) * ((((p0 &&& (524287 : Int32)) ^^^ p1) &&& (f_Sta_read (10 : Int32) sp)) &&& (15 : Int32)))) + (40 : Int32)) + (4 : Int32)) := by unfold f_Map_findEntry; rw [if_neg h4, if_neg h8, if_neg h12, if_neg h16, if_neg h20, if_pos h24]
              exact k_iret hx hb hr hlocks hK hP hD hS [0, 1, 2, 3, 4, 5] rfl rfl (by rw [ef] <;> rfl) d_Map_findEntry_124
          · refine lv_iload hx hb d_Map_findEntry_120 (lv_at hl 0 rfl) ?_
            refine lv_iconst (v := (4 : Int32)) hx hb d_Map_findEntry_122 (by decide) ?_
            refine lv_iadd hx hb d_Map_findEntry_123 ?_
            have ef : f_Map_findEntry p0 p1 w sp = (((((f_Sta_read (10 : Int32) sp) &&& (64512 : Int32)) + ((64 : Int32) * ((((p0 &&& (524287 : Int32)) ^^^ p1) &&& (f_Sta_read (10 : Int32) sp)) &&& (15 : Int32)))) + (32 : Int32)) + (4 : Int32)) := by unfold f_Map_findEntry; rw [if_neg h4, if_neg h8, if_neg h12, if_neg h16, if_pos h20]
            exact k_iret hx hb hr hlocks hK hP hD hS [0, 1, 2, 3, 4, 5] rfl rfl (by rw [ef] <;> rfl) d_Map_findEntry_124
        · refine lv_iload hx hb d_Map_findEntry_120 (lv_at hl 0 rfl) ?_
          refine lv_iconst (v := (4 : Int32)) hx hb d_Map_findEntry_122 (by decide) ?_
          refine lv_iadd hx hb d_Map_findEntry_123 ?_
          have ef : f_Map_findEntry p0 p1 w sp = (((((f_Sta_read (10 : Int32) sp) &&& (64512 : Int32)) + ((64 : Int32) * ((((p0 &&& (524287 : Int32)) ^^^ p1) &&& (f_Sta_read (10 : Int32) sp)) &&& (15 : Int32)))) + (24 : Int32)) + (4 : Int32)) := by unfold f_Map_findEntry; rw [if_neg h4, if_neg h8, if_neg h12, if_pos h16]
          exact k_iret hx hb hr hlocks hK hP hD hS [0, 1, 2, 3, 4, 5] rfl rfl (by rw [ef] <;> rfl) d_Map_findEntry_124
      · refine lv_iload hx hb d_Map_findEntry_120 (lv_at hl 0 rfl) ?_
        refine lv_iconst (v := (4 : Int32)) hx hb d_Map_findEntry_122 (by decide) ?_
        refine lv_iadd hx hb d_Map_findEntry_123 ?_
        have ef : f_Map_findEntry p0 p1 w sp = (((((f_Sta_read (10 : Int32) sp) &&& (64512 : Int32)) + ((64 : Int32) * ((((p0 &&& (524287 : Int32)) ^^^ p1) &&& (f_Sta_read (10 : Int32) sp)) &&& (15 : Int32)))) + (16 : Int32)) + (4 : Int32)) := by unfold f_Map_findEntry; rw [if_neg h4, if_neg h8, if_pos h12]
        exact k_iret hx hb hr hlocks hK hP hD hS [0, 1, 2, 3, 4, 5] rfl rfl (by rw [ef] <;> rfl) d_Map_findEntry_124
    · refine lv_iload hx hb d_Map_findEntry_120 (lv_at hl 0 rfl) ?_
      refine lv_iconst (v := (4 : Int32)) hx hb d_Map_findEntry_122 (by decide) ?_
      refine lv_iadd hx hb d_Map_findEntry_123 ?_
      have ef : f_Map_findEntry p0 p1 w sp = (((((f_Sta_read (10 : Int32) sp) &&& (64512 : Int32)) + ((64 : Int32) * ((((p0 &&& (524287 : Int32)) ^^^ p1) &&& (f_Sta_read (10 : Int32) sp)) &&& (15 : Int32)))) + (8 : Int32)) + (4 : Int32)) := by unfold f_Map_findEntry; rw [if_neg h4, if_pos h8]
      exact k_iret hx hb hr hlocks hK hP hD hS [0, 1, 2, 3, 4, 5] rfl rfl (by rw [ef] <;> rfl) d_Map_findEntry_124
  · refine lv_iload hx hb d_Map_findEntry_120 (lv_at hl 0 rfl) ?_
    refine lv_iconst (v := (4 : Int32)) hx hb d_Map_findEntry_122 (by decide) ?_
    refine lv_iadd hx hb d_Map_findEntry_123 ?_
    have ef : f_Map_findEntry p0 p1 w sp = (((((f_Sta_read (10 : Int32) sp) &&& (64512 : Int32)) + ((64 : Int32) * ((((p0 &&& (524287 : Int32)) ^^^ p1) &&& (f_Sta_read (10 : Int32) sp)) &&& (15 : Int32)))) + (0 : Int32)) + (4 : Int32)) := by unfold f_Map_findEntry; rw [if_pos h4]
    exact k_iret hx hb hr hlocks hK hP hD hS [0, 1, 2, 3, 4, 5] rfl rfl (by rw [ef] <;> rfl) d_Map_findEntry_124
/-! MappedProcessor$Mapper.refuses(IIZ)Z -/
theorem d_Map_refuses_0 : decode b_Map_refuses 0 = .ok (.iload_n 2, 1) := by decide +kernel
theorem d_Map_refuses_1 : decode b_Map_refuses 1 = .ok (.ifCond .eq 9, 3) := by decide +kernel
theorem d_Map_refuses_4 : decode b_Map_refuses 4 = .ok (.iload_n 0, 1) := by decide +kernel
theorem d_Map_refuses_5 : decode b_Map_refuses 5 = .ok (.ifCond .ne 5, 3) := by decide +kernel
theorem d_Map_refuses_8 : decode b_Map_refuses 8 = .ok (.iconst 1, 1) := by decide +kernel
theorem d_Map_refuses_9 : decode b_Map_refuses 9 = .ok (.ireturn, 1) := by decide +kernel
theorem d_Map_refuses_10 : decode b_Map_refuses 10 = .ok (.iload_n 1, 1) := by decide +kernel
theorem d_Map_refuses_11 : decode b_Map_refuses 11 = .ok (.iconst 2, 1) := by decide +kernel
theorem d_Map_refuses_12 : decode b_Map_refuses 12 = .ok (.if_icmp .ne 21, 3) := by decide +kernel
theorem d_Map_refuses_15 : decode b_Map_refuses 15 = .ok (.iload_n 0, 1) := by decide +kernel
theorem d_Map_refuses_16 : decode b_Map_refuses 16 = .ok (.iconst 3, 1) := by decide +kernel
theorem d_Map_refuses_17 : decode b_Map_refuses 17 = .ok (.if_icmp .eq 12, 3) := by decide +kernel
theorem d_Map_refuses_20 : decode b_Map_refuses 20 = .ok (.iload_n 2, 1) := by decide +kernel
theorem d_Map_refuses_21 : decode b_Map_refuses 21 = .ok (.ifCond .eq 12, 3) := by decide +kernel
theorem d_Map_refuses_24 : decode b_Map_refuses 24 = .ok (.iload_n 0, 1) := by decide +kernel
theorem d_Map_refuses_25 : decode b_Map_refuses 25 = .ok (.iconst 1, 1) := by decide +kernel
theorem d_Map_refuses_26 : decode b_Map_refuses 26 = .ok (.if_icmp .ne 7, 3) := by decide +kernel
theorem d_Map_refuses_29 : decode b_Map_refuses 29 = .ok (.iconst 1, 1) := by decide +kernel
theorem d_Map_refuses_30 : decode b_Map_refuses 30 = .ok (.goto 4, 3) := by decide +kernel
theorem d_Map_refuses_33 : decode b_Map_refuses 33 = .ok (.iconst 0, 1) := by decide +kernel
theorem d_Map_refuses_34 : decode b_Map_refuses 34 = .ok (.ireturn, 1) := by decide +kernel
def f_Map_refuses (p0 : Int32) (p1 : Int32) (p2 : Int32) : Int32 :=
  if p2 = (0 : Int32) then
    if p1 = (2 : Int32) then
      if p0 = (3 : Int32) then
        (1 : Int32)
      else
        (0 : Int32)
    else
      (0 : Int32)
  else
    if p0 = (0 : Int32) then
      (1 : Int32)
    else
      if p1 = (2 : Int32) then
        if p0 = (3 : Int32) then
          (1 : Int32)
        else
          (if p0 = (1 : Int32) then (1 : Int32) else (0 : Int32))
      else
        (0 : Int32)
set_option maxHeartbeats 4000000 in
set_option maxRecDepth 100000 in
theorem ib_Map_refuses (p0 : Int32) (p1 : Int32) (p2 : Int32) : isB (f_Map_refuses p0 p1 p2) := by
  unfold f_Map_refuses
  try dsimp only
  repeat' (first | refine ib_ite ?_ ?_ | refine ib_ite0 ?_ ?_ | with_reducible exact ib0 | with_reducible exact ib1 | (dsimp only; first | exact ib0 | exact ib1))
theorem nb_Map_refuses (p0 : Int32) (p1 : Int32) (p2 : Int32) : narrow .boolean (.int (f_Map_refuses p0 p1 p2)) = .int (f_Map_refuses p0 p1 p2) := nb_of (ib_Map_refuses p0 p1 p2)
set_option maxHeartbeats 4000000 in
set_option maxRecDepth 100000 in
theorem c_Map_refuses (l : Launch) (D : va_G) (p0 : Int32) (p1 : Int32) (p2 : Int32) : kMi l y_Map_refuses b_Map_refuses 3 (some .boolean) 0 0 D kCl [] [.int p0, .int p1, .int p2] [] (f_Map_refuses p0 p1 p2) [] := by
  refine k_entry (Qc := fun A => kQi D kCl [] (f_Map_refuses p0 p1 p2) [] A) (lv := [(0, .int p0), (1, .int p1), (2, .int p2)]) (by decide) (Nat.le_of_ble_eq_true rfl) rfl ?_
  intro p e s m below meth c A ls hx hb hr hml hB hown hlocks hin hA hK hN hP hD hS hl
  have hown : s.vm.findClass "MappedProcessor$Mapper" = some m.cls := hown
  refine lv_iload_n hx hb d_Map_refuses_0 rfl (lv_at hl 2 rfl) ?_
  refine lv_if_eq (tgt := 10) hx hb d_Map_refuses_1 (by decide) (fun (h1 : p2 = (0 : Int32)) => ?_) (fun (h1 : ¬ p2 = (0 : Int32)) => ?_)
  · refine lv_iload_n hx hb d_Map_refuses_10 rfl (lv_at hl 1 rfl) ?_
    refine lv_iconst (v := (2 : Int32)) hx hb d_Map_refuses_11 (by decide) ?_
    refine lv_icmp_ne (tgt := 33) hx hb d_Map_refuses_12 (by decide) (fun (h8 : ¬ p1 = (2 : Int32)) => ?_) (fun (h8 : p1 = (2 : Int32)) => ?_)
    · refine lv_iconst (v := (0 : Int32)) hx hb d_Map_refuses_33 (by decide) ?_
      have ef : f_Map_refuses p0 p1 p2 = (0 : Int32) := by unfold f_Map_refuses; rw [if_pos h1, if_neg h8]
      exact k_zret hx hb hr hlocks hK hP hD hS [] rfl rfl (by rw [ef] <;> rfl) nb0 d_Map_refuses_34
    · refine lv_iload_n hx hb d_Map_refuses_15 rfl (lv_at hl 0 rfl) ?_
      refine lv_iconst (v := (3 : Int32)) hx hb d_Map_refuses_16 (by decide) ?_
      refine lv_icmp_eq (tgt := 29) hx hb d_Map_refuses_17 (by decide) (fun (h12 : p0 = (3 : Int32)) => ?_) (fun (h12 : ¬ p0 = (3 : Int32)) => ?_)
      · refine lv_iconst (v := (1 : Int32)) hx hb d_Map_refuses_29 (by decide) ?_
        refine lv_goto (tgt := 34) hx hb d_Map_refuses_30 (by decide) ?_
        have ef : f_Map_refuses p0 p1 p2 = (1 : Int32) := by unfold f_Map_refuses; rw [if_pos h1, if_pos h8, if_pos h12]
        exact k_zret hx hb hr hlocks hK hP hD hS [] rfl rfl (by rw [ef] <;> rfl) nb1 d_Map_refuses_34
      · refine lv_iload_n hx hb d_Map_refuses_20 rfl (lv_at hl 2 rfl) ?_
        refine lv_if_eq (tgt := 33) hx hb d_Map_refuses_21 (by decide) (fun (h13 : p2 = (0 : Int32)) => ?_) (fun (h13 : ¬ p2 = (0 : Int32)) => ?_)
        rotate_left
        · exact absurd h1 h13
        refine lv_iconst (v := (0 : Int32)) hx hb d_Map_refuses_33 (by decide) ?_
        have ef : f_Map_refuses p0 p1 p2 = (0 : Int32) := by unfold f_Map_refuses; rw [if_pos h1, if_pos h8, if_neg h12]
        exact k_zret hx hb hr hlocks hK hP hD hS [] rfl rfl (by rw [ef] <;> rfl) nb0 d_Map_refuses_34
  · refine lv_iload_n hx hb d_Map_refuses_4 rfl (lv_at hl 0 rfl) ?_
    refine lv_if_ne (tgt := 10) hx hb d_Map_refuses_5 (by decide) (fun (h14 : ¬ p0 = (0 : Int32)) => ?_) (fun (h14 : p0 = (0 : Int32)) => ?_)
    · refine lv_iload_n hx hb d_Map_refuses_10 rfl (lv_at hl 1 rfl) ?_
      refine lv_iconst (v := (2 : Int32)) hx hb d_Map_refuses_11 (by decide) ?_
      refine lv_icmp_ne (tgt := 33) hx hb d_Map_refuses_12 (by decide) (fun (h21 : ¬ p1 = (2 : Int32)) => ?_) (fun (h21 : p1 = (2 : Int32)) => ?_)
      · refine lv_iconst (v := (0 : Int32)) hx hb d_Map_refuses_33 (by decide) ?_
        have ef : f_Map_refuses p0 p1 p2 = (0 : Int32) := by unfold f_Map_refuses; rw [if_neg h1, if_neg h14, if_neg h21]
        exact k_zret hx hb hr hlocks hK hP hD hS [] rfl rfl (by rw [ef] <;> rfl) nb0 d_Map_refuses_34
      · refine lv_iload_n hx hb d_Map_refuses_15 rfl (lv_at hl 0 rfl) ?_
        refine lv_iconst (v := (3 : Int32)) hx hb d_Map_refuses_16 (by decide) ?_
        refine lv_icmp_eq (tgt := 29) hx hb d_Map_refuses_17 (by decide) (fun (h25 : p0 = (3 : Int32)) => ?_) (fun (h25 : ¬ p0 = (3 : Int32)) => ?_)
        · refine lv_iconst (v := (1 : Int32)) hx hb d_Map_refuses_29 (by decide) ?_
          refine lv_goto (tgt := 34) hx hb d_Map_refuses_30 (by decide) ?_
          have ef : f_Map_refuses p0 p1 p2 = (1 : Int32) := by unfold f_Map_refuses; rw [if_neg h1, if_neg h14, if_pos h21, if_pos h25]
          exact k_zret hx hb hr hlocks hK hP hD hS [] rfl rfl (by rw [ef] <;> rfl) nb1 d_Map_refuses_34
        · refine lv_iload_n hx hb d_Map_refuses_20 rfl (lv_at hl 2 rfl) ?_
          refine lv_if_eq (tgt := 33) hx hb d_Map_refuses_21 (by decide) (fun (h26 : p2 = (0 : Int32)) => ?_) (fun (h26 : ¬ p2 = (0 : Int32)) => ?_)
          · exact absurd h26 h1
          refine lv_iload_n hx hb d_Map_refuses_24 rfl (lv_at hl 0 rfl) ?_
          refine lv_iconst (v := (1 : Int32)) hx hb d_Map_refuses_25 (by decide) ?_
          refine k_join2 (c0 := p0 = (1 : Int32)) (x1 := (1 : Int32)) (x2 := (0 : Int32)) (rest := []) 34 ?_ (fun k28 k29 => ?_)
          rotate_left
          · refine lv_icmp_ne (tgt := 33) hx hb d_Map_refuses_26 (by decide) (fun (h27 : ¬ p0 = (1 : Int32)) => ?_) (fun (h27 : p0 = (1 : Int32)) => ?_)
            · refine lv_iconst (v := (0 : Int32)) hx hb d_Map_refuses_33 (by decide) ?_
              exact k29 h27
            · refine lv_iconst (v := (1 : Int32)) hx hb d_Map_refuses_29 (by decide) ?_
              refine lv_goto (tgt := 34) hx hb d_Map_refuses_30 (by decide) ?_
              exact k28 h27
          have ef : f_Map_refuses p0 p1 p2 = (if p0 = (1 : Int32) then (1 : Int32) else (0 : Int32)) := by unfold f_Map_refuses; rw [if_neg h1, if_neg h14, if_pos h21, if_neg h25]
          exact k_zret hx hb hr hlocks hK hP hD hS [] rfl rfl (by rw [ef] <;> rfl) (nb_ite nb1 nb0) d_Map_refuses_34
    · refine lv_iconst (v := (1 : Int32)) hx hb d_Map_refuses_8 (by decide) ?_
      have ef : f_Map_refuses p0 p1 p2 = (1 : Int32) := by unfold f_Map_refuses; rw [if_neg h1, if_pos h14]
      exact k_zret hx hb hr hlocks hK hP hD hS [] rfl rfl (by rw [ef] <;> rfl) nb1 d_Map_refuses_9
/-! MappedProcessor$Mapper.throughEntry(IIII)I -/
theorem d_Map_throughEntry_0 : decode b_Map_throughEntry 0 = .ok (.aload_n 0, 1) := by decide +kernel
theorem d_Map_throughEntry_1 : decode b_Map_throughEntry 1 = .ok (.getfield 9, 3) := by decide +kernel
theorem d_Map_throughEntry_4 : decode b_Map_throughEntry 4 = .ok (.iload 4, 2) := by decide +kernel
theorem d_Map_throughEntry_6 : decode b_Map_throughEntry 6 = .ok (.invokevirtual 51, 3) := by decide +kernel
theorem d_Map_throughEntry_9 : decode b_Map_throughEntry 9 = .ok (.istore 5, 2) := by decide +kernel
theorem d_Map_throughEntry_11 : decode b_Map_throughEntry 11 = .ok (.aload_n 0, 1) := by decide +kernel
theorem d_Map_throughEntry_12 : decode b_Map_throughEntry 12 = .ok (.getfield 15, 3) := by decide +kernel
theorem d_Map_throughEntry_15 : decode b_Map_throughEntry 15 = .ok (.iconst 1, 1) := by decide +kernel
theorem d_Map_throughEntry_16 : decode b_Map_throughEntry 16 = .ok (.sipush 16384, 3) := by decide +kernel
theorem d_Map_throughEntry_19 : decode b_Map_throughEntry 19 = .ok (.invokevirtual 23, 3) := by decide +kernel
theorem d_Map_throughEntry_22 : decode b_Map_throughEntry 22 = .ok (.ifCond .eq 8, 3) := by decide +kernel
theorem d_Map_throughEntry_25 : decode b_Map_throughEntry 25 = .ok (.ldc 66, 2) := by decide +kernel
theorem d_Map_throughEntry_27 : decode b_Map_throughEntry 27 = .ok (.goto 5, 3) := by decide +kernel
theorem d_Map_throughEntry_30 : decode b_Map_throughEntry 30 = .ok (.ldc 67, 2) := by decide +kernel
theorem d_Map_throughEntry_32 : decode b_Map_throughEntry 32 = .ok (.istore 6, 2) := by decide +kernel
theorem d_Map_throughEntry_34 : decode b_Map_throughEntry 34 = .ok (.iload 5, 2) := by decide +kernel
theorem d_Map_throughEntry_36 : decode b_Map_throughEntry 36 = .ok (.iconst 3, 1) := by decide +kernel
theorem d_Map_throughEntry_37 : decode b_Map_throughEntry 37 = .ok (.iand, 1) := by decide +kernel
theorem d_Map_throughEntry_38 : decode b_Map_throughEntry 38 = .ok (.iload_n 2, 1) := by decide +kernel
theorem d_Map_throughEntry_39 : decode b_Map_throughEntry 39 = .ok (.iload_n 3, 1) := by decide +kernel
theorem d_Map_throughEntry_40 : decode b_Map_throughEntry 40 = .ok (.iload 6, 2) := by decide +kernel
theorem d_Map_throughEntry_42 : decode b_Map_throughEntry 42 = .ok (.iand, 1) := by decide +kernel
theorem d_Map_throughEntry_43 : decode b_Map_throughEntry 43 = .ok (.ifCond .eq 7, 3) := by decide +kernel
theorem d_Map_throughEntry_46 : decode b_Map_throughEntry 46 = .ok (.iconst 1, 1) := by decide +kernel
theorem d_Map_throughEntry_47 : decode b_Map_throughEntry 47 = .ok (.goto 4, 3) := by decide +kernel
theorem d_Map_throughEntry_50 : decode b_Map_throughEntry 50 = .ok (.iconst 0, 1) := by decide +kernel
theorem d_Map_throughEntry_51 : decode b_Map_throughEntry 51 = .ok (.invokestatic 68, 3) := by decide +kernel
theorem d_Map_throughEntry_54 : decode b_Map_throughEntry 54 = .ok (.ifCond .eq 6, 3) := by decide +kernel
theorem d_Map_throughEntry_57 : decode b_Map_throughEntry 57 = .ok (.bipush (-2), 2) := by decide +kernel
theorem d_Map_throughEntry_59 : decode b_Map_throughEntry 59 = .ok (.ireturn, 1) := by decide +kernel
theorem d_Map_throughEntry_60 : decode b_Map_throughEntry 60 = .ok (.aload_n 0, 1) := by decide +kernel
theorem d_Map_throughEntry_61 : decode b_Map_throughEntry 61 = .ok (.iload 4, 2) := by decide +kernel
theorem d_Map_throughEntry_63 : decode b_Map_throughEntry 63 = .ok (.putfield 19, 3) := by decide +kernel
theorem d_Map_throughEntry_66 : decode b_Map_throughEntry 66 = .ok (.iload 5, 2) := by decide +kernel
theorem d_Map_throughEntry_68 : decode b_Map_throughEntry 68 = .ok (.sipush (-4096), 3) := by decide +kernel
theorem d_Map_throughEntry_71 : decode b_Map_throughEntry 71 = .ok (.iand, 1) := by decide +kernel
theorem d_Map_throughEntry_72 : decode b_Map_throughEntry 72 = .ok (.iload_n 1, 1) := by decide +kernel
theorem d_Map_throughEntry_73 : decode b_Map_throughEntry 73 = .ok (.sipush 4095, 3) := by decide +kernel
theorem d_Map_throughEntry_76 : decode b_Map_throughEntry 76 = .ok (.iand, 1) := by decide +kernel
theorem d_Map_throughEntry_77 : decode b_Map_throughEntry 77 = .ok (.ior, 1) := by decide +kernel
theorem d_Map_throughEntry_78 : decode b_Map_throughEntry 78 = .ok (.ldc 29, 2) := by decide +kernel
theorem d_Map_throughEntry_80 : decode b_Map_throughEntry 80 = .ok (.iand, 1) := by decide +kernel
theorem d_Map_throughEntry_81 : decode b_Map_throughEntry 81 = .ok (.ireturn, 1) := by decide +kernel
def f_Map_throughEntry (p0 : Int32) (p1 : Int32) (p2 : Int32) (p3 : Int32) (w : Nat → Int32) (sp : Nat → Int32) (en : Int32) : Int32 × Int32 :=
  if (f_Map_refuses ((f_Mem_at p3 w) &&& (3 : Int32)) p1 (if (p2 &&& (if (f_Sta_has (1 : Int32) (16384 : Int32) sp) = (0 : Int32) then (1073741824 : Int32) else (536870912 : Int32))) = (0 : Int32) then (0 : Int32) else (1 : Int32))) = (0 : Int32) then
    (((((f_Mem_at p3 w) &&& (-4096 : Int32)) ||| (p0 &&& (4095 : Int32))) &&& (65535 : Int32)), p3)
  else
    ((-2 : Int32), en)
set_option maxHeartbeats 4000000 in
set_option maxRecDepth 100000 in
theorem c_Map_throughEntry (l : Launch) (D : va_G) (aM aW aS aG aX aQ : Nat) (cW cG cX : ClassId) (w : Nat → Int32) (g : Nat → Int32) (sp : Nat → Int32) (nx : Int32) (lt : Int32) (sm : Int32) (ex : Int32) (en : Int32) (p0 : Int32) (p1 : Int32) (p2 : Int32) (p3 : Int32) : kMi l y_Map_throughEntry b_Map_throughEntry 7 (some .int) 1 22 D kCl [(cW, .int), (cG, .int), (cX, .int)] [.ref aQ, .int p0, .int p1, .int p2, .int p3] [(aM, .inr (8, [.ref aW])), (aW, .inl (cW, 16384, .inl w)), (aS, .inr (9, [.ref aG, .ref aX, .int nx, .int lt, .int sm, .int ex])), (aG, .inl (cG, 32, .inl g)), (aX, .inl (cX, 64, .inl sp)), (aQ, .inr (7, [.ref aM, .ref aS, .int en]))] (f_Map_throughEntry p0 p1 p2 p3 w sp en).1 [(aM, .inr (8, [.ref aW])), (aW, .inl (cW, 16384, .inl w)), (aS, .inr (9, [.ref aG, .ref aX, .int nx, .int lt, .int sm, .int ex])), (aG, .inl (cG, 32, .inl g)), (aX, .inl (cX, 64, .inl sp)), (aQ, .inr (7, [.ref aM, .ref aS, .int (f_Map_throughEntry p0 p1 p2 p3 w sp en).2]))] := by
  refine k_entry (Qc := fun A => kQi D kCl [(cW, .int), (cG, .int), (cX, .int)] (f_Map_throughEntry p0 p1 p2 p3 w sp en).1 [(aM, .inr (8, [.ref aW])), (aW, .inl (cW, 16384, .inl w)), (aS, .inr (9, [.ref aG, .ref aX, .int nx, .int lt, .int sm, .int ex])), (aG, .inl (cG, 32, .inl g)), (aX, .inl (cX, 64, .inl sp)), (aQ, .inr (7, [.ref aM, .ref aS, .int (f_Map_throughEntry p0 p1 p2 p3 w sp en).2]))] A) (lv := [(0, .ref aQ), (1, .int p0), (2, .int p1), (3, .int p2), (4, .int p3)]) (by decide) (Nat.le_of_ble_eq_true rfl) rfl ?_
  intro p e s m below meth c A ls hx hb hr hml hB hown hlocks hin hA hK hN hP hD hS hl
  have hown : s.vm.findClass "MappedProcessor$Mapper" = some m.cls := hown
  refine lv_aload_n hx hb d_Map_throughEntry_0 rfl (lv_at hl 0 rfl) ?_
  refine va_get (D := D) (ci := 7) (v := .ref aM) (C := "MappedProcessor$Mapper") (T := T_Map) (N := 3) hx hb hB iw_Map hown hK hP 5 rfl rfl 0 (by decide) (hB _ mw_64) (fun _ h9 => h9) rfl d_Map_throughEntry_1 ?_
  refine lv_iload hx hb d_Map_throughEntry_4 (lv_at hl 4 rfl) ?_
  refine k_cVi (As := [.int p3]) (rest := []) (wr := [(aS, .inr (9, [.ref aG, .ref aX, .int nx, .int lt, .int sm, .int ex])), (aG, .inl (cG, 32, .inl g)), (aX, .inl (cX, 64, .inl sp)), (aQ, .inr (7, [.ref aM, .ref aS, .int en]))]) (wj := [(aM, .inr (8, [.ref aW])), (aW, .inl (cW, 16384, .inl w)), (aS, .inr (9, [.ref aG, .ref aX, .int nx, .int lt, .int sm, .int ex])), (aG, .inl (cG, 32, .inl g)), (aX, .inl (cX, 64, .inl sp)), (aQ, .inr (7, [.ref aM, .ref aS, .int en]))]) ⟨hx, hb, hml, hown, hB⟩ (c_Mem_at l D aM aW cW w p3) yl_Mem_at mw_338 hK hN hP hD hS hA [0] [0, 1] [2, 3, 4, 5] [4, 5, 0, 1, 2, 3] rfl rfl rfl rfl (by decide +kernel) 0 rfl rfl rfl rfl hl.1 rfl (Nat.le_of_ble_eq_true rfl) ⟨Nat.le_of_ble_eq_true rfl, Nat.le_of_ble_eq_true rfl⟩ d_Map_throughEntry_6 ⟨Nat.le_of_ble_eq_true rfl, Nat.le_of_ble_eq_true rfl⟩ (fun H locs hP hD hS => ?_)
  refine lv_istore (lv' := [(5, .int (f_Mem_at p3 w)), (0, .ref aQ), (1, .int p0), (2, .int p1), (3, .int p2), (4, .int p3)]) hx hb d_Map_throughEntry_9 hl (by decide) rfl (fun ls hl => ?_)
  refine lv_aload_n hx hb d_Map_throughEntry_11 rfl (lv_at hl 1 rfl) ?_
  refine va_get (D := D) (ci := 7) (v := .ref aS) (C := "MappedProcessor$Mapper") (T := T_Map) (N := 3) hx hb hB iw_Map hown hK hP 5 rfl rfl 1 (by decide) (hB _ mw_65) (fun _ h9 => h9) rfl d_Map_throughEntry_12 ?_
  refine lv_iconst (v := (1 : Int32)) hx hb d_Map_throughEntry_15 (by decide) ?_
  refine lv_sipush (v := (16384 : Int32)) hx hb d_Map_throughEntry_16 (by decide) ?_
  refine k_cVi (As := [.int (1 : Int32), .int (16384 : Int32)]) (rest := []) (wr := [(aM, .inr (8, [.ref aW])), (aW, .inl (cW, 16384, .inl w)), (aQ, .inr (7, [.ref aM, .ref aS, .int en]))]) (wj := [(aM, .inr (8, [.ref aW])), (aW, .inl (cW, 16384, .inl w)), (aS, .inr (9, [.ref aG, .ref aX, .int nx, .int lt, .int sm, .int ex])), (aG, .inl (cG, 32, .inl g)), (aX, .inl (cX, 64, .inl sp)), (aQ, .inr (7, [.ref aM, .ref aS, .int en]))]) ⟨hx, hb, hml, hown, hB⟩ (c_Sta_has l D aS aG aX cG cX g sp nx lt sm ex (1 : Int32) (16384 : Int32)) yl_Sta_has mw_312 hK hN hP hD hS hA [1, 2] [2, 3, 4] [0, 1, 5] [0, 1, 3, 4, 5, 2] rfl rfl rfl rfl (by decide +kernel) 0 rfl rfl rfl rfl hl.1 rfl (Nat.le_of_ble_eq_true rfl) ⟨Nat.le_of_ble_eq_true rfl, Nat.le_of_ble_eq_true rfl⟩ d_Map_throughEntry_19 ⟨Nat.le_of_ble_eq_true rfl, Nat.le_of_ble_eq_true rfl⟩ (fun H locs hP hD hS => ?_)
  refine k_join2 (c0 := (f_Sta_has (1 : Int32) (16384 : Int32) sp) = (0 : Int32)) (x1 := (1073741824 : Int32)) (x2 := (536870912 : Int32)) (rest := []) 32 ?_ (fun k2 k3 => ?_)
  rotate_left
  · refine lv_if_eq (tgt := 30) hx hb d_Map_throughEntry_22 (by decide) (fun (h1 : (f_Sta_has (1 : Int32) (16384 : Int32) sp) = (0 : Int32)) => ?_) (fun (h1 : ¬ (f_Sta_has (1 : Int32) (16384 : Int32) sp) = (0 : Int32)) => ?_)
    · refine lv_ldc (v := (1073741824 : Int32)) hx hb hown (hB _ mw_344) d_Map_throughEntry_30 ?_
      exact k2 h1
    · refine lv_ldc (v := (536870912 : Int32)) hx hb hown (hB _ mw_343) d_Map_throughEntry_25 ?_
      refine lv_goto (tgt := 32) hx hb d_Map_throughEntry_27 (by decide) ?_
      exact k3 h1
  refine lv_istore (lv' := [(6, .int (if (f_Sta_has (1 : Int32) (16384 : Int32) sp) = (0 : Int32) then (1073741824 : Int32) else (536870912 : Int32))), (5, .int (f_Mem_at p3 w)), (0, .ref aQ), (1, .int p0), (2, .int p1), (3, .int p2), (4, .int p3)]) hx hb d_Map_throughEntry_32 hl (by decide) rfl (fun ls hl => ?_)
  refine lv_iload hx hb d_Map_throughEntry_34 (lv_at hl 1 rfl) ?_
  refine lv_iconst (v := (3 : Int32)) hx hb d_Map_throughEntry_36 (by decide) ?_
  refine lv_iand hx hb d_Map_throughEntry_37 ?_
  refine lv_iload_n hx hb d_Map_throughEntry_38 rfl (lv_at hl 4 rfl) ?_
  refine lv_iload_n hx hb d_Map_throughEntry_39 rfl (lv_at hl 5 rfl) ?_
  refine lv_iload hx hb d_Map_throughEntry_40 (lv_at hl 0 rfl) ?_
  refine lv_iand hx hb d_Map_throughEntry_42 ?_
  refine k_join2 (c0 := (p2 &&& (if (f_Sta_has (1 : Int32) (16384 : Int32) sp) = (0 : Int32) then (1073741824 : Int32) else (536870912 : Int32))) = (0 : Int32)) (x1 := (0 : Int32)) (x2 := (1 : Int32)) (rest := [.int p1, .int ((f_Mem_at p3 w) &&& (3 : Int32))]) 51 ?_ (fun k7 k8 => ?_)
  rotate_left
  · refine lv_if_eq (tgt := 50) hx hb d_Map_throughEntry_43 (by decide) (fun (h6 : (p2 &&& (if (f_Sta_has (1 : Int32) (16384 : Int32) sp) = (0 : Int32) then (1073741824 : Int32) else (536870912 : Int32))) = (0 : Int32)) => ?_) (fun (h6 : ¬ (p2 &&& (if (f_Sta_has (1 : Int32) (16384 : Int32) sp) = (0 : Int32) then (1073741824 : Int32) else (536870912 : Int32))) = (0 : Int32)) => ?_)
    · refine lv_iconst (v := (0 : Int32)) hx hb d_Map_throughEntry_50 (by decide) ?_
      exact k7 h6
    · refine lv_iconst (v := (1 : Int32)) hx hb d_Map_throughEntry_46 (by decide) ?_
      refine lv_goto (tgt := 51) hx hb d_Map_throughEntry_47 (by decide) ?_
      exact k8 h6
  refine k_cSi (As := [.int ((f_Mem_at p3 w) &&& (3 : Int32)), .int p1, .int (if (p2 &&& (if (f_Sta_has (1 : Int32) (16384 : Int32) sp) = (0 : Int32) then (1073741824 : Int32) else (536870912 : Int32))) = (0 : Int32) then (0 : Int32) else (1 : Int32))]) (rest := []) (wr := [(aM, .inr (8, [.ref aW])), (aW, .inl (cW, 16384, .inl w)), (aS, .inr (9, [.ref aG, .ref aX, .int nx, .int lt, .int sm, .int ex])), (aG, .inl (cG, 32, .inl g)), (aX, .inl (cX, 64, .inl sp)), (aQ, .inr (7, [.ref aM, .ref aS, .int en]))]) (wj := [(aM, .inr (8, [.ref aW])), (aW, .inl (cW, 16384, .inl w)), (aS, .inr (9, [.ref aG, .ref aX, .int nx, .int lt, .int sm, .int ex])), (aG, .inl (cG, 32, .inl g)), (aX, .inl (cX, 64, .inl sp)), (aQ, .inr (7, [.ref aM, .ref aS, .int en]))]) ⟨hx, hb, hml, hown, hB⟩ (c_Map_refuses l D ((f_Mem_at p3 w) &&& (3 : Int32)) p1 (if (p2 &&& (if (f_Sta_has (1 : Int32) (16384 : Int32) sp) = (0 : Int32) then (1073741824 : Int32) else (536870912 : Int32))) = (0 : Int32) then (0 : Int32) else (1 : Int32))) yl_Map_refuses mw_345 hK hN hP hD hS hA [] [] [0, 1, 2, 3, 4, 5] [0, 1, 2, 3, 4, 5] rfl rfl rfl rfl (by decide +kernel) rfl hl.1 rfl (Nat.le_of_ble_eq_true rfl) ⟨Nat.le_of_ble_eq_true rfl, Nat.le_of_ble_eq_true rfl⟩ d_Map_throughEntry_51 ⟨Nat.le_of_ble_eq_true rfl, Nat.le_of_ble_eq_true rfl⟩ (fun H locs hP hD hS => ?_)
  refine lv_if_eq (tgt := 60) hx hb d_Map_throughEntry_54 (by decide) (fun (h11 : (f_Map_refuses ((f_Mem_at p3 w) &&& (3 : Int32)) p1 (if (p2 &&& (if (f_Sta_has (1 : Int32) (16384 : Int32) sp) = (0 : Int32) then (1073741824 : Int32) else (536870912 : Int32))) = (0 : Int32) then (0 : Int32) else (1 : Int32))) = (0 : Int32)) => ?_) (fun (h11 : ¬ (f_Map_refuses ((f_Mem_at p3 w) &&& (3 : Int32)) p1 (if (p2 &&& (if (f_Sta_has (1 : Int32) (16384 : Int32) sp) = (0 : Int32) then (1073741824 : Int32) else (536870912 : Int32))) = (0 : Int32) then (0 : Int32) else (1 : Int32))) = (0 : Int32)) => ?_)
  · refine lv_aload_n hx hb d_Map_throughEntry_60 rfl (lv_at hl 2 rfl) ?_
    refine lv_iload hx hb d_Map_throughEntry_61 (lv_at hl 6 rfl) ?_
    refine va_put (D := D) (ci := 7) (v := .int p3) (ty := .int) (C := "MappedProcessor$Mapper") (T := T_Map) (N := 3) hx hb hB iw_Map ty_Map ty_Map_ok nm_Map hown hK hP hD hS 5 rfl rfl 2 (by decide) (hB _ mw_66) (fun _ h9 => h9) rfl (by decide +kernel) rfl rfl (Nat.le_of_ble_eq_true rfl) d_Map_throughEntry_63 (fun H locs hP hD hS => ?_)
    have hP : va_P D kCl [(aM, .inr (8, [.ref aW])), (aW, .inl (cW, 16384, .inl w)), (aS, .inr (9, [.ref aG, .ref aX, .int nx, .int lt, .int sm, .int ex])), (aG, .inl (cG, 32, .inl g)), (aX, .inl (cX, 64, .inl sp)), (aQ, .inr (7, [.ref aM, .ref aS, .int p3]))] H := hP
    have hD : va_D A [(aM, .inr (8, [.ref aW])), (aW, .inl (cW, 16384, .inl w)), (aS, .inr (9, [.ref aG, .ref aX, .int nx, .int lt, .int sm, .int ex])), (aG, .inl (cG, 32, .inl g)), (aX, .inl (cX, 64, .inl sp)), (aQ, .inr (7, [.ref aM, .ref aS, .int p3]))] := hD
    refine lv_iload hx hb d_Map_throughEntry_66 (lv_at hl 1 rfl) ?_
    refine lv_sipush (v := (-4096 : Int32)) hx hb d_Map_throughEntry_68 (by decide) ?_
    refine lv_iand hx hb d_Map_throughEntry_71 ?_
    refine lv_iload_n hx hb d_Map_throughEntry_72 rfl (lv_at hl 3 rfl) ?_
    refine lv_sipush (v := (4095 : Int32)) hx hb d_Map_throughEntry_73 (by decide) ?_
    refine lv_iand hx hb d_Map_throughEntry_76 ?_
    refine lv_ior hx hb d_Map_throughEntry_77 ?_
    refine lv_ldc (v := (65535 : Int32)) hx hb hown (hB _ mw_316) d_Map_throughEntry_78 ?_
    refine lv_iand hx hb d_Map_throughEntry_80 ?_
    have ef : f_Map_throughEntry p0 p1 p2 p3 w sp en = (((((f_Mem_at p3 w) &&& (-4096 : Int32)) ||| (p0 &&& (4095 : Int32))) &&& (65535 : Int32)), p3) := by unfold f_Map_throughEntry; rw [if_pos h11]
    exact k_iret hx hb hr hlocks hK hP hD hS [0, 1, 2, 3, 4, 5] rfl (by rw [ef] <;> rfl) (by rw [ef] <;> rfl) d_Map_throughEntry_81
  · refine lv_bipush (v := (-2 : Int32)) hx hb d_Map_throughEntry_57 (by decide) ?_
    have ef : f_Map_throughEntry p0 p1 p2 p3 w sp en = ((-2 : Int32), en) := by unfold f_Map_throughEntry; rw [if_neg h11]
    exact k_iret hx hb hr hlocks hK hP hD hS [0, 1, 2, 3, 4, 5] rfl (by rw [ef] <;> rfl) (by rw [ef] <;> rfl) d_Map_throughEntry_59
/-! MappedProcessor$Mapper.locate(II)I -/
theorem d_Map_locate_0 : decode b_Map_locate 0 = .ok (.aload_n 0, 1) := by decide +kernel
theorem d_Map_locate_1 : decode b_Map_locate 1 = .ok (.iconst (-1), 1) := by decide +kernel
theorem d_Map_locate_2 : decode b_Map_locate 2 = .ok (.putfield 19, 3) := by decide +kernel
theorem d_Map_locate_5 : decode b_Map_locate 5 = .ok (.aload_n 0, 1) := by decide +kernel
theorem d_Map_locate_6 : decode b_Map_locate 6 = .ok (.getfield 15, 3) := by decide +kernel
theorem d_Map_locate_9 : decode b_Map_locate 9 = .ok (.iconst 1, 1) := by decide +kernel
theorem d_Map_locate_10 : decode b_Map_locate 10 = .ok (.iload_n 2, 1) := by decide +kernel
theorem d_Map_locate_11 : decode b_Map_locate 11 = .ok (.ifCond .ne 8, 3) := by decide +kernel
theorem d_Map_locate_14 : decode b_Map_locate 14 = .ok (.bipush 32, 2) := by decide +kernel
theorem d_Map_locate_16 : decode b_Map_locate 16 = .ok (.goto 5, 3) := by decide +kernel
theorem d_Map_locate_19 : decode b_Map_locate 19 = .ok (.bipush 16, 2) := by decide +kernel
theorem d_Map_locate_21 : decode b_Map_locate 21 = .ok (.invokevirtual 23, 3) := by decide +kernel
theorem d_Map_locate_24 : decode b_Map_locate 24 = .ok (.ifCond .ne 8, 3) := by decide +kernel
theorem d_Map_locate_27 : decode b_Map_locate 27 = .ok (.iload_n 1, 1) := by decide +kernel
theorem d_Map_locate_28 : decode b_Map_locate 28 = .ok (.ldc 29, 2) := by decide +kernel
theorem d_Map_locate_30 : decode b_Map_locate 30 = .ok (.iand, 1) := by decide +kernel
theorem d_Map_locate_31 : decode b_Map_locate 31 = .ok (.ireturn, 1) := by decide +kernel
theorem d_Map_locate_32 : decode b_Map_locate 32 = .ok (.aload_n 0, 1) := by decide +kernel
theorem d_Map_locate_33 : decode b_Map_locate 33 = .ok (.iload_n 1, 1) := by decide +kernel
theorem d_Map_locate_34 : decode b_Map_locate 34 = .ok (.iload_n 2, 1) := by decide +kernel
theorem d_Map_locate_35 : decode b_Map_locate 35 = .ok (.invokevirtual 30, 3) := by decide +kernel
theorem d_Map_locate_38 : decode b_Map_locate 38 = .ok (.istore_n 3, 1) := by decide +kernel
theorem d_Map_locate_39 : decode b_Map_locate 39 = .ok (.iload_n 3, 1) := by decide +kernel
theorem d_Map_locate_40 : decode b_Map_locate 40 = .ok (.iconst (-1), 1) := by decide +kernel
theorem d_Map_locate_41 : decode b_Map_locate 41 = .ok (.if_icmp .eq 11, 3) := by decide +kernel
theorem d_Map_locate_44 : decode b_Map_locate 44 = .ok (.aload_n 0, 1) := by decide +kernel
theorem d_Map_locate_45 : decode b_Map_locate 45 = .ok (.iload_n 1, 1) := by decide +kernel
theorem d_Map_locate_46 : decode b_Map_locate 46 = .ok (.iload_n 2, 1) := by decide +kernel
theorem d_Map_locate_47 : decode b_Map_locate 47 = .ok (.iload_n 3, 1) := by decide +kernel
theorem d_Map_locate_48 : decode b_Map_locate 48 = .ok (.invokevirtual 34, 3) := by decide +kernel
theorem d_Map_locate_51 : decode b_Map_locate 51 = .ok (.ireturn, 1) := by decide +kernel
theorem d_Map_locate_52 : decode b_Map_locate 52 = .ok (.aload_n 0, 1) := by decide +kernel
theorem d_Map_locate_53 : decode b_Map_locate 53 = .ok (.getfield 15, 3) := by decide +kernel
theorem d_Map_locate_56 : decode b_Map_locate 56 = .ok (.bipush 32, 2) := by decide +kernel
theorem d_Map_locate_58 : decode b_Map_locate 58 = .ok (.iload_n 1, 1) := by decide +kernel
theorem d_Map_locate_59 : decode b_Map_locate 59 = .ok (.bipush 28, 2) := by decide +kernel
theorem d_Map_locate_61 : decode b_Map_locate 61 = .ok (.iushr, 1) := by decide +kernel
theorem d_Map_locate_62 : decode b_Map_locate 62 = .ok (.iadd, 1) := by decide +kernel
theorem d_Map_locate_63 : decode b_Map_locate 63 = .ok (.invokevirtual 38, 3) := by decide +kernel
theorem d_Map_locate_66 : decode b_Map_locate 66 = .ok (.istore 4, 2) := by decide +kernel
theorem d_Map_locate_68 : decode b_Map_locate 68 = .ok (.iload 4, 2) := by decide +kernel
theorem d_Map_locate_70 : decode b_Map_locate 70 = .ok (.ifCond .ge 5, 3) := by decide +kernel
theorem d_Map_locate_73 : decode b_Map_locate 73 = .ok (.iconst (-1), 1) := by decide +kernel
theorem d_Map_locate_74 : decode b_Map_locate 74 = .ok (.ireturn, 1) := by decide +kernel
theorem d_Map_locate_75 : decode b_Map_locate 75 = .ok (.iload_n 2, 1) := by decide +kernel
theorem d_Map_locate_76 : decode b_Map_locate 76 = .ok (.ifCond .ne 14, 3) := by decide +kernel
theorem d_Map_locate_79 : decode b_Map_locate 79 = .ok (.iload 4, 2) := by decide +kernel
theorem d_Map_locate_81 : decode b_Map_locate 81 = .ok (.ldc 42, 2) := by decide +kernel
theorem d_Map_locate_83 : decode b_Map_locate 83 = .ok (.iand, 1) := by decide +kernel
theorem d_Map_locate_84 : decode b_Map_locate 84 = .ok (.ifCond .eq 6, 3) := by decide +kernel
theorem d_Map_locate_87 : decode b_Map_locate 87 = .ok (.bipush (-3), 2) := by decide +kernel
theorem d_Map_locate_89 : decode b_Map_locate 89 = .ok (.ireturn, 1) := by decide +kernel
theorem d_Map_locate_90 : decode b_Map_locate 90 = .ok (.aload_n 0, 1) := by decide +kernel
theorem d_Map_locate_91 : decode b_Map_locate 91 = .ok (.iload 4, 2) := by decide +kernel
theorem d_Map_locate_93 : decode b_Map_locate 93 = .ok (.ldc 43, 2) := by decide +kernel
theorem d_Map_locate_95 : decode b_Map_locate 95 = .ok (.iand, 1) := by decide +kernel
theorem d_Map_locate_96 : decode b_Map_locate 96 = .ok (.iload_n 1, 1) := by decide +kernel
theorem d_Map_locate_97 : decode b_Map_locate 97 = .ok (.bipush 12, 2) := by decide +kernel
theorem d_Map_locate_99 : decode b_Map_locate 99 = .ok (.iushr, 1) := by decide +kernel
theorem d_Map_locate_100 : decode b_Map_locate 100 = .ok (.ldc 29, 2) := by decide +kernel
theorem d_Map_locate_102 : decode b_Map_locate 102 = .ok (.iand, 1) := by decide +kernel
theorem d_Map_locate_103 : decode b_Map_locate 103 = .ok (.invokevirtual 44, 3) := by decide +kernel
theorem d_Map_locate_106 : decode b_Map_locate 106 = .ok (.istore 5, 2) := by decide +kernel
theorem d_Map_locate_108 : decode b_Map_locate 108 = .ok (.iload 5, 2) := by decide +kernel
theorem d_Map_locate_110 : decode b_Map_locate 110 = .ok (.iconst (-1), 1) := by decide +kernel
theorem d_Map_locate_111 : decode b_Map_locate 111 = .ok (.if_icmp .ne 7, 3) := by decide +kernel
theorem d_Map_locate_114 : decode b_Map_locate 114 = .ok (.iconst (-1), 1) := by decide +kernel
theorem d_Map_locate_115 : decode b_Map_locate 115 = .ok (.goto 13, 3) := by decide +kernel
theorem d_Map_locate_118 : decode b_Map_locate 118 = .ok (.aload_n 0, 1) := by decide +kernel
theorem d_Map_locate_119 : decode b_Map_locate 119 = .ok (.iload_n 1, 1) := by decide +kernel
theorem d_Map_locate_120 : decode b_Map_locate 120 = .ok (.iload_n 2, 1) := by decide +kernel
theorem d_Map_locate_121 : decode b_Map_locate 121 = .ok (.iload 4, 2) := by decide +kernel
theorem d_Map_locate_123 : decode b_Map_locate 123 = .ok (.iload 5, 2) := by decide +kernel
theorem d_Map_locate_125 : decode b_Map_locate 125 = .ok (.invokevirtual 47, 3) := by decide +kernel
theorem d_Map_locate_128 : decode b_Map_locate 128 = .ok (.ireturn, 1) := by decide +kernel
def f_Map_locate (p0 : Int32) (p1 : Int32) (w : Nat → Int32) (sp : Nat → Int32) : Int32 × Int32 :=
  if (f_Sta_has (1 : Int32) (if p1 = (0 : Int32) then (32 : Int32) else (16 : Int32)) sp) = (0 : Int32) then
    ((p0 &&& (65535 : Int32)), (-1 : Int32))
  else
    if (f_Map_matchingBlock p0 p1 sp) = (-1 : Int32) then
      if (0 : Int32) ≤ (f_Sta_read ((32 : Int32) + (ush p0 (28 : Int32))) sp) then
        if p1 = (0 : Int32) then
          if ((f_Sta_read ((32 : Int32) + (ush p0 (28 : Int32))) sp) &&& (268435456 : Int32)) = (0 : Int32) then
            if (f_Map_findEntry ((f_Sta_read ((32 : Int32) + (ush p0 (28 : Int32))) sp) &&& (16777215 : Int32)) ((ush p0 (12 : Int32)) &&& (65535 : Int32)) w sp) = (-1 : Int32) then
              ((-1 : Int32), (-1 : Int32))
            else
              let t20 := (f_Map_throughEntry p0 p1 (f_Sta_read ((32 : Int32) + (ush p0 (28 : Int32))) sp) (f_Map_findEntry ((f_Sta_read ((32 : Int32) + (ush p0 (28 : Int32))) sp) &&& (16777215 : Int32)) ((ush p0 (12 : Int32)) &&& (65535 : Int32)) w sp) w sp (-1 : Int32))
              (t20.1, t20.2)
          else
            ((-3 : Int32), (-1 : Int32))
        else
          if (f_Map_findEntry ((f_Sta_read ((32 : Int32) + (ush p0 (28 : Int32))) sp) &&& (16777215 : Int32)) ((ush p0 (12 : Int32)) &&& (65535 : Int32)) w sp) = (-1 : Int32) then
            ((-1 : Int32), (-1 : Int32))
          else
            let t14 := (f_Map_throughEntry p0 p1 (f_Sta_read ((32 : Int32) + (ush p0 (28 : Int32))) sp) (f_Map_findEntry ((f_Sta_read ((32 : Int32) + (ush p0 (28 : Int32))) sp) &&& (16777215 : Int32)) ((ush p0 (12 : Int32)) &&& (65535 : Int32)) w sp) w sp (-1 : Int32))
            (t14.1, t14.2)
      else
        ((-1 : Int32), (-1 : Int32))
    else
      ((f_Map_throughBlock p0 p1 (f_Map_matchingBlock p0 p1 sp) sp), (-1 : Int32))
set_option maxHeartbeats 4000000 in
set_option maxRecDepth 100000 in
theorem c_Map_locate (l : Launch) (D : va_G) (aM aW aS aG aX aQ : Nat) (cW cG cX : ClassId) (w : Nat → Int32) (g : Nat → Int32) (sp : Nat → Int32) (nx : Int32) (lt : Int32) (sm : Int32) (ex : Int32) (en : Int32) (p0 : Int32) (p1 : Int32) : kMi l y_Map_locate b_Map_locate 6 (some .int) 2 50 D kCl [(cW, .int), (cG, .int), (cX, .int)] [.ref aQ, .int p0, .int p1] [(aM, .inr (8, [.ref aW])), (aW, .inl (cW, 16384, .inl w)), (aS, .inr (9, [.ref aG, .ref aX, .int nx, .int lt, .int sm, .int ex])), (aG, .inl (cG, 32, .inl g)), (aX, .inl (cX, 64, .inl sp)), (aQ, .inr (7, [.ref aM, .ref aS, .int en]))] (f_Map_locate p0 p1 w sp).1 [(aM, .inr (8, [.ref aW])), (aW, .inl (cW, 16384, .inl w)), (aS, .inr (9, [.ref aG, .ref aX, .int nx, .int lt, .int sm, .int ex])), (aG, .inl (cG, 32, .inl g)), (aX, .inl (cX, 64, .inl sp)), (aQ, .inr (7, [.ref aM, .ref aS, .int (f_Map_locate p0 p1 w sp).2]))] := by
  refine k_entry (Qc := fun A => kQi D kCl [(cW, .int), (cG, .int), (cX, .int)] (f_Map_locate p0 p1 w sp).1 [(aM, .inr (8, [.ref aW])), (aW, .inl (cW, 16384, .inl w)), (aS, .inr (9, [.ref aG, .ref aX, .int nx, .int lt, .int sm, .int ex])), (aG, .inl (cG, 32, .inl g)), (aX, .inl (cX, 64, .inl sp)), (aQ, .inr (7, [.ref aM, .ref aS, .int (f_Map_locate p0 p1 w sp).2]))] A) (lv := [(0, .ref aQ), (1, .int p0), (2, .int p1)]) (by decide) (Nat.le_of_ble_eq_true rfl) rfl ?_
  intro p e s m below meth c A ls hx hb hr hml hB hown hlocks hin hA hK hN hP hD hS hl
  have hown : s.vm.findClass "MappedProcessor$Mapper" = some m.cls := hown
  refine lv_aload_n hx hb d_Map_locate_0 rfl (lv_at hl 0 rfl) ?_
  refine lv_iconst (v := (-1 : Int32)) hx hb d_Map_locate_1 (by decide) ?_
  refine va_put (D := D) (ci := 7) (v := .int (-1 : Int32)) (ty := .int) (C := "MappedProcessor$Mapper") (T := T_Map) (N := 3) hx hb hB iw_Map ty_Map ty_Map_ok nm_Map hown hK hP hD hS 5 rfl rfl 2 (by decide) (hB _ mw_66) (fun _ h9 => h9) rfl (by decide +kernel) rfl rfl (Nat.le_of_ble_eq_true rfl) d_Map_locate_2 (fun H locs hP hD hS => ?_)
  have hP : va_P D kCl [(aM, .inr (8, [.ref aW])), (aW, .inl (cW, 16384, .inl w)), (aS, .inr (9, [.ref aG, .ref aX, .int nx, .int lt, .int sm, .int ex])), (aG, .inl (cG, 32, .inl g)), (aX, .inl (cX, 64, .inl sp)), (aQ, .inr (7, [.ref aM, .ref aS, .int (-1 : Int32)]))] H := hP
  have hD : va_D A [(aM, .inr (8, [.ref aW])), (aW, .inl (cW, 16384, .inl w)), (aS, .inr (9, [.ref aG, .ref aX, .int nx, .int lt, .int sm, .int ex])), (aG, .inl (cG, 32, .inl g)), (aX, .inl (cX, 64, .inl sp)), (aQ, .inr (7, [.ref aM, .ref aS, .int (-1 : Int32)]))] := hD
  refine lv_aload_n hx hb d_Map_locate_5 rfl (lv_at hl 0 rfl) ?_
  refine va_get (D := D) (ci := 7) (v := .ref aS) (C := "MappedProcessor$Mapper") (T := T_Map) (N := 3) hx hb hB iw_Map hown hK hP 5 rfl rfl 1 (by decide) (hB _ mw_65) (fun _ h9 => h9) rfl d_Map_locate_6 ?_
  refine lv_iconst (v := (1 : Int32)) hx hb d_Map_locate_9 (by decide) ?_
  refine lv_iload_n hx hb d_Map_locate_10 rfl (lv_at hl 2 rfl) ?_
  refine k_join2 (c0 := p1 = (0 : Int32)) (x1 := (32 : Int32)) (x2 := (16 : Int32)) (rest := [.int (1 : Int32), .ref aS]) 21 ?_ (fun k2 k3 => ?_)
  rotate_left
  · refine lv_if_ne (tgt := 19) hx hb d_Map_locate_11 (by decide) (fun (h1 : ¬ p1 = (0 : Int32)) => ?_) (fun (h1 : p1 = (0 : Int32)) => ?_)
    · refine lv_bipush (v := (16 : Int32)) hx hb d_Map_locate_19 (by decide) ?_
      exact k3 h1
    · refine lv_bipush (v := (32 : Int32)) hx hb d_Map_locate_14 (by decide) ?_
      refine lv_goto (tgt := 21) hx hb d_Map_locate_16 (by decide) ?_
      exact k2 h1
  refine k_cVi (As := [.int (1 : Int32), .int (if p1 = (0 : Int32) then (32 : Int32) else (16 : Int32))]) (rest := []) (wr := [(aM, .inr (8, [.ref aW])), (aW, .inl (cW, 16384, .inl w)), (aQ, .inr (7, [.ref aM, .ref aS, .int (-1 : Int32)]))]) (wj := [(aM, .inr (8, [.ref aW])), (aW, .inl (cW, 16384, .inl w)), (aS, .inr (9, [.ref aG, .ref aX, .int nx, .int lt, .int sm, .int ex])), (aG, .inl (cG, 32, .inl g)), (aX, .inl (cX, 64, .inl sp)), (aQ, .inr (7, [.ref aM, .ref aS, .int (-1 : Int32)]))]) ⟨hx, hb, hml, hown, hB⟩ (c_Sta_has l D aS aG aX cG cX g sp nx lt sm ex (1 : Int32) (if p1 = (0 : Int32) then (32 : Int32) else (16 : Int32))) yl_Sta_has mw_312 hK hN hP hD hS hA [1, 2] [2, 3, 4] [0, 1, 5] [0, 1, 3, 4, 5, 2] rfl rfl rfl rfl (by decide +kernel) 0 rfl rfl rfl rfl hl.1 rfl (Nat.le_of_ble_eq_true rfl) ⟨Nat.le_of_ble_eq_true rfl, Nat.le_of_ble_eq_true rfl⟩ d_Map_locate_21 ⟨Nat.le_of_ble_eq_true rfl, Nat.le_of_ble_eq_true rfl⟩ (fun H locs hP hD hS => ?_)
  refine lv_if_ne (tgt := 32) hx hb d_Map_locate_24 (by decide) (fun (h6 : ¬ (f_Sta_has (1 : Int32) (if p1 = (0 : Int32) then (32 : Int32) else (16 : Int32)) sp) = (0 : Int32)) => ?_) (fun (h6 : (f_Sta_has (1 : Int32) (if p1 = (0 : Int32) then (32 : Int32) else (16 : Int32)) sp) = (0 : Int32)) => ?_)
  · refine lv_aload_n hx hb d_Map_locate_32 rfl (lv_at hl 0 rfl) ?_
    refine lv_iload_n hx hb d_Map_locate_33 rfl (lv_at hl 1 rfl) ?_
    refine lv_iload_n hx hb d_Map_locate_34 rfl (lv_at hl 2 rfl) ?_
    refine k_cVi (As := [.int p0, .int p1]) (rest := []) (wr := []) (wj := [(aM, .inr (8, [.ref aW])), (aW, .inl (cW, 16384, .inl w)), (aS, .inr (9, [.ref aG, .ref aX, .int nx, .int lt, .int sm, .int ex])), (aG, .inl (cG, 32, .inl g)), (aX, .inl (cX, 64, .inl sp)), (aQ, .inr (7, [.ref aM, .ref aS, .int (-1 : Int32)]))]) ⟨hx, hb, hml, hown, hB⟩ (c_Map_matchingBlock l D aM aW aS aG aX aQ cW cG cX w g sp nx lt sm ex (-1 : Int32) p0 p1) yl_Map_matchingBlock mw_317 hK hN hP hD hS hA [0, 1, 2] [0, 1, 2, 3, 4, 5] [] [0, 1, 2, 3, 4, 5] rfl rfl rfl rfl (by decide +kernel) 5 rfl rfl rfl rfl hl.1 rfl (Nat.le_of_ble_eq_true rfl) ⟨Nat.le_of_ble_eq_true rfl, Nat.le_of_ble_eq_true rfl⟩ d_Map_locate_35 ⟨Nat.le_of_ble_eq_true rfl, Nat.le_of_ble_eq_true rfl⟩ (fun H locs hP hD hS => ?_)
    refine lv_istore_n (lv' := [(3, .int (f_Map_matchingBlock p0 p1 sp)), (0, .ref aQ), (1, .int p0), (2, .int p1)]) hx hb d_Map_locate_38 rfl hl (by decide) rfl (fun ls hl => ?_)
    refine lv_iload_n hx hb d_Map_locate_39 rfl (lv_at hl 0 rfl) ?_
    refine lv_iconst (v := (-1 : Int32)) hx hb d_Map_locate_40 (by decide) ?_
    refine lv_icmp_eq (tgt := 52) hx hb d_Map_locate_41 (by decide) (fun (h7 : (f_Map_matchingBlock p0 p1 sp) = (-1 : Int32)) => ?_) (fun (h7 : ¬ (f_Map_matchingBlock p0 p1 sp) = (-1 : Int32)) => ?_)
    · refine lv_aload_n hx hb d_Map_locate_52 rfl (lv_at hl 1 rfl) ?_
      refine va_get (D := D) (ci := 7) (v := .ref aS) (C := "MappedProcessor$Mapper") (T := T_Map) (N := 3) hx hb hB iw_Map hown hK hP 5 rfl rfl 1 (by decide) (hB _ mw_65) (fun _ h9 => h9) rfl d_Map_locate_53 ?_
      refine lv_bipush (v := (32 : Int32)) hx hb d_Map_locate_56 (by decide) ?_
      refine lv_iload_n hx hb d_Map_locate_58 rfl (lv_at hl 2 rfl) ?_
      refine lv_bipush (v := (28 : Int32)) hx hb d_Map_locate_59 (by decide) ?_
      refine lv_iushr (v := (ush p0 (28 : Int32))) hx hb d_Map_locate_61 rfl ?_
      refine lv_iadd hx hb d_Map_locate_62 ?_
      refine k_cVi (As := [.int ((32 : Int32) + (ush p0 (28 : Int32)))]) (rest := []) (wr := [(aM, .inr (8, [.ref aW])), (aW, .inl (cW, 16384, .inl w)), (aQ, .inr (7, [.ref aM, .ref aS, .int (-1 : Int32)]))]) (wj := [(aM, .inr (8, [.ref aW])), (aW, .inl (cW, 16384, .inl w)), (aS, .inr (9, [.ref aG, .ref aX, .int nx, .int lt, .int sm, .int ex])), (aG, .inl (cG, 32, .inl g)), (aX, .inl (cX, 64, .inl sp)), (aQ, .inr (7, [.ref aM, .ref aS, .int (-1 : Int32)]))]) ⟨hx, hb, hml, hown, hB⟩ (c_Sta_read l D aS aG aX cG cX g sp nx lt sm ex ((32 : Int32) + (ush p0 (28 : Int32)))) yl_Sta_read mw_321 hK hN hP hD hS hA [1, 2] [2, 3, 4] [0, 1, 5] [0, 1, 3, 4, 5, 2] rfl rfl rfl rfl (by decide +kernel) 0 rfl rfl rfl rfl hl.1 rfl (Nat.le_of_ble_eq_true rfl) ⟨Nat.le_of_ble_eq_true rfl, Nat.le_of_ble_eq_true rfl⟩ d_Map_locate_63 ⟨Nat.le_of_ble_eq_true rfl, Nat.le_of_ble_eq_true rfl⟩ (fun H locs hP hD hS => ?_)
      refine lv_istore (lv' := [(4, .int (f_Sta_read ((32 : Int32) + (ush p0 (28 : Int32))) sp)), (3, .int (f_Map_matchingBlock p0 p1 sp)), (0, .ref aQ), (1, .int p0), (2, .int p1)]) hx hb d_Map_locate_66 hl (by decide) rfl (fun ls hl => ?_)
      refine lv_iload hx hb d_Map_locate_68 (lv_at hl 0 rfl) ?_
      refine lv_if_ge (tgt := 75) hx hb d_Map_locate_70 (by decide) (fun (h8 : (0 : Int32) ≤ (f_Sta_read ((32 : Int32) + (ush p0 (28 : Int32))) sp)) => ?_) (fun (h8 : ¬ (0 : Int32) ≤ (f_Sta_read ((32 : Int32) + (ush p0 (28 : Int32))) sp)) => ?_)
      · refine lv_iload_n hx hb d_Map_locate_75 rfl (lv_at hl 4 rfl) ?_
        refine lv_if_ne (tgt := 90) hx hb d_Map_locate_76 (by decide) (fun (h9 : ¬ p1 = (0 : Int32)) => ?_) (fun (h9 : p1 = (0 : Int32)) => ?_)
        · refine lv_aload_n hx hb d_Map_locate_90 rfl (lv_at hl 2 rfl) ?_
          refine lv_iload hx hb d_Map_locate_91 (lv_at hl 0 rfl) ?_
          refine lv_ldc (v := (16777215 : Int32)) hx hb hown (hB _ mw_330) d_Map_locate_93 ?_
          refine lv_iand hx hb d_Map_locate_95 ?_
          refine lv_iload_n hx hb d_Map_locate_96 rfl (lv_at hl 3 rfl) ?_
          refine lv_bipush (v := (12 : Int32)) hx hb d_Map_locate_97 (by decide) ?_
          refine lv_iushr (v := (ush p0 (12 : Int32))) hx hb d_Map_locate_99 rfl ?_
          refine lv_ldc (v := (65535 : Int32)) hx hb hown (hB _ mw_316) d_Map_locate_100 ?_
          refine lv_iand hx hb d_Map_locate_102 ?_
          refine k_cVi (As := [.int ((f_Sta_read ((32 : Int32) + (ush p0 (28 : Int32))) sp) &&& (16777215 : Int32)), .int ((ush p0 (12 : Int32)) &&& (65535 : Int32))]) (rest := []) (wr := []) (wj := [(aM, .inr (8, [.ref aW])), (aW, .inl (cW, 16384, .inl w)), (aS, .inr (9, [.ref aG, .ref aX, .int nx, .int lt, .int sm, .int ex])), (aG, .inl (cG, 32, .inl g)), (aX, .inl (cX, 64, .inl sp)), (aQ, .inr (7, [.ref aM, .ref aS, .int (-1 : Int32)]))]) ⟨hx, hb, hml, hown, hB⟩ (c_Map_findEntry l D aM aW aS aG aX aQ cW cG cX w g sp nx lt sm ex (-1 : Int32) ((f_Sta_read ((32 : Int32) + (ush p0 (28 : Int32))) sp) &&& (16777215 : Int32)) ((ush p0 (12 : Int32)) &&& (65535 : Int32))) yl_Map_findEntry mw_331 hK hN hP hD hS hA [0, 1, 2] [0, 1, 2, 3, 4, 5] [] [0, 1, 2, 3, 4, 5] rfl rfl rfl rfl (by decide +kernel) 5 rfl rfl rfl rfl hl.1 rfl (Nat.le_of_ble_eq_true rfl) ⟨Nat.le_of_ble_eq_true rfl, Nat.le_of_ble_eq_true rfl⟩ d_Map_locate_103 ⟨Nat.le_of_ble_eq_true rfl, Nat.le_of_ble_eq_true rfl⟩ (fun H locs hP hD hS => ?_)
          refine lv_istore (lv' := [(5, .int (f_Map_findEntry ((f_Sta_read ((32 : Int32) + (ush p0 (28 : Int32))) sp) &&& (16777215 : Int32)) ((ush p0 (12 : Int32)) &&& (65535 : Int32)) w sp)), (4, .int (f_Sta_read ((32 : Int32) + (ush p0 (28 : Int32))) sp)), (3, .int (f_Map_matchingBlock p0 p1 sp)), (0, .ref aQ), (1, .int p0), (2, .int p1)]) hx hb d_Map_locate_106 hl (by decide) rfl (fun ls hl => ?_)
          refine lv_iload hx hb d_Map_locate_108 (lv_at hl 0 rfl) ?_
          refine lv_iconst (v := (-1 : Int32)) hx hb d_Map_locate_110 (by decide) ?_
          refine lv_icmp_ne (tgt := 118) hx hb d_Map_locate_111 (by decide) (fun (h13 : ¬ (f_Map_findEntry ((f_Sta_read ((32 : Int32) + (ush p0 (28 : Int32))) sp) &&& (16777215 : Int32)) ((ush p0 (12 : Int32)) &&& (65535 : Int32)) w sp) = (-1 : Int32)) => ?_) (fun (h13 : (f_Map_findEntry ((f_Sta_read ((32 : Int32) + (ush p0 (28 : Int32))) sp) &&& (16777215 : Int32)) ((ush p0 (12 : Int32)) &&& (65535 : Int32)) w sp) = (-1 : Int32)) => ?_)
          · refine lv_aload_n hx hb d_Map_locate_118 rfl (lv_at hl 3 rfl) ?_
            refine lv_iload_n hx hb d_Map_locate_119 rfl (lv_at hl 4 rfl) ?_
            refine lv_iload_n hx hb d_Map_locate_120 rfl (lv_at hl 5 rfl) ?_
            refine lv_iload hx hb d_Map_locate_121 (lv_at hl 1 rfl) ?_
            refine lv_iload hx hb d_Map_locate_123 (lv_at hl 0 rfl) ?_
            let t14 := (f_Map_throughEntry p0 p1 (f_Sta_read ((32 : Int32) + (ush p0 (28 : Int32))) sp) (f_Map_findEntry ((f_Sta_read ((32 : Int32) + (ush p0 (28 : Int32))) sp) &&& (16777215 : Int32)) ((ush p0 (12 : Int32)) &&& (65535 : Int32)) w sp) w sp (-1 : Int32))
            refine k_cVi (As := [.int p0, .int p1, .int (f_Sta_read ((32 : Int32) + (ush p0 (28 : Int32))) sp), .int (f_Map_findEntry ((f_Sta_read ((32 : Int32) + (ush p0 (28 : Int32))) sp) &&& (16777215 : Int32)) ((ush p0 (12 : Int32)) &&& (65535 : Int32)) w sp)]) (rest := []) (wr := []) (wj := [(aM, .inr (8, [.ref aW])), (aW, .inl (cW, 16384, .inl w)), (aS, .inr (9, [.ref aG, .ref aX, .int nx, .int lt, .int sm, .int ex])), (aG, .inl (cG, 32, .inl g)), (aX, .inl (cX, 64, .inl sp)), (aQ, .inr (7, [.ref aM, .ref aS, .int t14.2]))]) ⟨hx, hb, hml, hown, hB⟩ (c_Map_throughEntry l D aM aW aS aG aX aQ cW cG cX w g sp nx lt sm ex (-1 : Int32) p0 p1 (f_Sta_read ((32 : Int32) + (ush p0 (28 : Int32))) sp) (f_Map_findEntry ((f_Sta_read ((32 : Int32) + (ush p0 (28 : Int32))) sp) &&& (16777215 : Int32)) ((ush p0 (12 : Int32)) &&& (65535 : Int32)) w sp)) yl_Map_throughEntry mw_339 hK hN hP hD hS hA [0, 1, 2] [0, 1, 2, 3, 4, 5] [] [0, 1, 2, 3, 4, 5] rfl rfl rfl rfl (by decide +kernel) 5 rfl rfl rfl rfl hl.1 rfl (Nat.le_of_ble_eq_true rfl) ⟨Nat.le_of_ble_eq_true rfl, Nat.le_of_ble_eq_true rfl⟩ d_Map_locate_125 ⟨Nat.le_of_ble_eq_true rfl, Nat.le_of_ble_eq_true rfl⟩ (fun H locs hP hD hS => ?_)
            have ef : f_Map_locate p0 p1 w sp = (t14.1, t14.2) := by unfold f_Map_locate; try dsimp only; rw [if_neg h6, if_pos h7, if_pos h8, if_neg h9, if_neg h13]
            exact k_iret hx hb hr hlocks hK hP hD hS [0, 1, 2, 3, 4, 5] rfl (by rw [ef] <;> rfl) (by rw [ef] <;> rfl) d_Map_locate_128
          · refine lv_iconst (v := (-1 : Int32)) hx hb d_Map_locate_114 (by decide) ?_
            refine lv_goto (tgt := 128) hx hb d_Map_locate_115 (by decide) ?_
            have ef : f_Map_locate p0 p1 w sp = ((-1 : Int32), (-1 : Int32)) := by unfold f_Map_locate; try dsimp only; rw [if_neg h6, if_pos h7, if_pos h8, if_neg h9, if_pos h13]
            exact k_iret hx hb hr hlocks hK hP hD hS [0, 1, 2, 3, 4, 5] rfl (by rw [ef] <;> rfl) (by rw [ef] <;> rfl) d_Map_locate_128
        · refine lv_iload hx hb d_Map_locate_79 (lv_at hl 0 rfl) ?_
          refine lv_ldc (v := (268435456 : Int32)) hx hb hown (hB _ mw_329) d_Map_locate_81 ?_
          refine lv_iand hx hb d_Map_locate_83 ?_
          refine lv_if_eq (tgt := 90) hx hb d_Map_locate_84 (by decide) (fun (h15 : ((f_Sta_read ((32 : Int32) + (ush p0 (28 : Int32))) sp) &&& (268435456 : Int32)) = (0 : Int32)) => ?_) (fun (h15 : ¬ ((f_Sta_read ((32 : Int32) + (ush p0 (28 : Int32))) sp) &&& (268435456 : Int32)) = (0 : Int32)) => ?_)
          · refine lv_aload_n hx hb d_Map_locate_90 rfl (lv_at hl 2 rfl) ?_
            refine lv_iload hx hb d_Map_locate_91 (lv_at hl 0 rfl) ?_
            refine lv_ldc (v := (16777215 : Int32)) hx hb hown (hB _ mw_330) d_Map_locate_93 ?_
            refine lv_iand hx hb d_Map_locate_95 ?_
            refine lv_iload_n hx hb d_Map_locate_96 rfl (lv_at hl 3 rfl) ?_
            refine lv_bipush (v := (12 : Int32)) hx hb d_Map_locate_97 (by decide) ?_
            refine lv_iushr (v := (ush p0 (12 : Int32))) hx hb d_Map_locate_99 rfl ?_
            refine lv_ldc (v := (65535 : Int32)) hx hb hown (hB _ mw_316) d_Map_locate_100 ?_
            refine lv_iand hx hb d_Map_locate_102 ?_
            refine k_cVi (As := [.int ((f_Sta_read ((32 : Int32) + (ush p0 (28 : Int32))) sp) &&& (16777215 : Int32)), .int ((ush p0 (12 : Int32)) &&& (65535 : Int32))]) (rest := []) (wr := []) (wj := [(aM, .inr (8, [.ref aW])), (aW, .inl (cW, 16384, .inl w)), (aS, .inr (9, [.ref aG, .ref aX, .int nx, .int lt, .int sm, .int ex])), (aG, .inl (cG, 32, .inl g)), (aX, .inl (cX, 64, .inl sp)), (aQ, .inr (7, [.ref aM, .ref aS, .int (-1 : Int32)]))]) ⟨hx, hb, hml, hown, hB⟩ (c_Map_findEntry l D aM aW aS aG aX aQ cW cG cX w g sp nx lt sm ex (-1 : Int32) ((f_Sta_read ((32 : Int32) + (ush p0 (28 : Int32))) sp) &&& (16777215 : Int32)) ((ush p0 (12 : Int32)) &&& (65535 : Int32))) yl_Map_findEntry mw_331 hK hN hP hD hS hA [0, 1, 2] [0, 1, 2, 3, 4, 5] [] [0, 1, 2, 3, 4, 5] rfl rfl rfl rfl (by decide +kernel) 5 rfl rfl rfl rfl hl.1 rfl (Nat.le_of_ble_eq_true rfl) ⟨Nat.le_of_ble_eq_true rfl, Nat.le_of_ble_eq_true rfl⟩ d_Map_locate_103 ⟨Nat.le_of_ble_eq_true rfl, Nat.le_of_ble_eq_true rfl⟩ (fun H locs hP hD hS => ?_)
            refine lv_istore (lv' := [(5, .int (f_Map_findEntry ((f_Sta_read ((32 : Int32) + (ush p0 (28 : Int32))) sp) &&& (16777215 : Int32)) ((ush p0 (12 : Int32)) &&& (65535 : Int32)) w sp)), (4, .int (f_Sta_read ((32 : Int32) + (ush p0 (28 : Int32))) sp)), (3, .int (f_Map_matchingBlock p0 p1 sp)), (0, .ref aQ), (1, .int p0), (2, .int p1)]) hx hb d_Map_locate_106 hl (by decide) rfl (fun ls hl => ?_)
            refine lv_iload hx hb d_Map_locate_108 (lv_at hl 0 rfl) ?_
            refine lv_iconst (v := (-1 : Int32)) hx hb d_Map_locate_110 (by decide) ?_
            refine lv_icmp_ne (tgt := 118) hx hb d_Map_locate_111 (by decide) (fun (h19 : ¬ (f_Map_findEntry ((f_Sta_read ((32 : Int32) + (ush p0 (28 : Int32))) sp) &&& (16777215 : Int32)) ((ush p0 (12 : Int32)) &&& (65535 : Int32)) w sp) = (-1 : Int32)) => ?_) (fun (h19 : (f_Map_findEntry ((f_Sta_read ((32 : Int32) + (ush p0 (28 : Int32))) sp) &&& (16777215 : Int32)) ((ush p0 (12 : Int32)) &&& (65535 : Int32)) w sp) = (-1 : Int32)) => ?_)
            · refine lv_aload_n hx hb d_Map_locate_118 rfl (lv_at hl 3 rfl) ?_
              refine lv_iload_n hx hb d_Map_locate_119 rfl (lv_at hl 4 rfl) ?_
              refine lv_iload_n hx hb d_Map_locate_120 rfl (lv_at hl 5 rfl) ?_
              refine lv_iload hx hb d_Map_locate_121 (lv_at hl 1 rfl) ?_
              refine lv_iload hx hb d_Map_locate_123 (lv_at hl 0 rfl) ?_
              let t20 := (f_Map_throughEntry p0 p1 (f_Sta_read ((32 : Int32) + (ush p0 (28 : Int32))) sp) (f_Map_findEntry ((f_Sta_read ((32 : Int32) + (ush p0 (28 : Int32))) sp) &&& (16777215 : Int32)) ((ush p0 (12 : Int32)) &&& (65535 : Int32)) w sp) w sp (-1 : Int32))
              refine k_cVi (As := [.int p0, .int p1, .int (f_Sta_read ((32 : Int32) + (ush p0 (28 : Int32))) sp), .int (f_Map_findEntry ((f_Sta_read ((32 : Int32) + (ush p0 (28 : Int32))) sp) &&& (16777215 : Int32)) ((ush p0 (12 : Int32)) &&& (65535 : Int32)) w sp)]) (rest := []) (wr := []) (wj := [(aM, .inr (8, [.ref aW])), (aW, .inl (cW, 16384, .inl w)), (aS, .inr (9, [.ref aG, .ref aX, .int nx, .int lt, .int sm, .int ex])), (aG, .inl (cG, 32, .inl g)), (aX, .inl (cX, 64, .inl sp)), (aQ, .inr (7, [.ref aM, .ref aS, .int t20.2]))]) ⟨hx, hb, hml, hown, hB⟩ (c_Map_throughEntry l D aM aW aS aG aX aQ cW cG cX w g sp nx lt sm ex (-1 : Int32) p0 p1 (f_Sta_read ((32 : Int32) + (ush p0 (28 : Int32))) sp) (f_Map_findEntry ((f_Sta_read ((32 : Int32) + (ush p0 (28 : Int32))) sp) &&& (16777215 : Int32)) ((ush p0 (12 : Int32)) &&& (65535 : Int32)) w sp)) yl_Map_throughEntry mw_339 hK hN hP hD hS hA [0, 1, 2] [0, 1, 2, 3, 4, 5] [] [0, 1, 2, 3, 4, 5] rfl rfl rfl rfl (by decide +kernel) 5 rfl rfl rfl rfl hl.1 rfl (Nat.le_of_ble_eq_true rfl) ⟨Nat.le_of_ble_eq_true rfl, Nat.le_of_ble_eq_true rfl⟩ d_Map_locate_125 ⟨Nat.le_of_ble_eq_true rfl, Nat.le_of_ble_eq_true rfl⟩ (fun H locs hP hD hS => ?_)
              have ef : f_Map_locate p0 p1 w sp = (t20.1, t20.2) := by unfold f_Map_locate; try dsimp only; rw [if_neg h6, if_pos h7, if_pos h8, if_pos h9, if_pos h15, if_neg h19]
              exact k_iret hx hb hr hlocks hK hP hD hS [0, 1, 2, 3, 4, 5] rfl (by rw [ef] <;> rfl) (by rw [ef] <;> rfl) d_Map_locate_128
            · refine lv_iconst (v := (-1 : Int32)) hx hb d_Map_locate_114 (by decide) ?_
              refine lv_goto (tgt := 128) hx hb d_Map_locate_115 (by decide) ?_
              have ef : f_Map_locate p0 p1 w sp = ((-1 : Int32), (-1 : Int32)) := by unfold f_Map_locate; try dsimp only; rw [if_neg h6, if_pos h7, if_pos h8, if_pos h9, if_pos h15, if_pos h19]
              exact k_iret hx hb hr hlocks hK hP hD hS [0, 1, 2, 3, 4, 5] rfl (by rw [ef] <;> rfl) (by rw [ef] <;> rfl) d_Map_locate_128
          · refine lv_bipush (v := (-3 : Int32)) hx hb d_Map_locate_87 (by decide) ?_
            have ef : f_Map_locate p0 p1 w sp = ((-3 : Int32), (-1 : Int32)) := by unfold f_Map_locate; try dsimp only; rw [if_neg h6, if_pos h7, if_pos h8, if_pos h9, if_neg h15]
            exact k_iret hx hb hr hlocks hK hP hD hS [0, 1, 2, 3, 4, 5] rfl (by rw [ef] <;> rfl) (by rw [ef] <;> rfl) d_Map_locate_89
      · refine lv_iconst (v := (-1 : Int32)) hx hb d_Map_locate_73 (by decide) ?_
        have ef : f_Map_locate p0 p1 w sp = ((-1 : Int32), (-1 : Int32)) := by unfold f_Map_locate; try dsimp only; rw [if_neg h6, if_pos h7, if_neg h8]
        exact k_iret hx hb hr hlocks hK hP hD hS [0, 1, 2, 3, 4, 5] rfl (by rw [ef] <;> rfl) (by rw [ef] <;> rfl) d_Map_locate_74
    · refine lv_aload_n hx hb d_Map_locate_44 rfl (lv_at hl 1 rfl) ?_
      refine lv_iload_n hx hb d_Map_locate_45 rfl (lv_at hl 2 rfl) ?_
      refine lv_iload_n hx hb d_Map_locate_46 rfl (lv_at hl 3 rfl) ?_
      refine lv_iload_n hx hb d_Map_locate_47 rfl (lv_at hl 0 rfl) ?_
      refine k_cVi (As := [.int p0, .int p1, .int (f_Map_matchingBlock p0 p1 sp)]) (rest := []) (wr := []) (wj := [(aM, .inr (8, [.ref aW])), (aW, .inl (cW, 16384, .inl w)), (aS, .inr (9, [.ref aG, .ref aX, .int nx, .int lt, .int sm, .int ex])), (aG, .inl (cG, 32, .inl g)), (aX, .inl (cX, 64, .inl sp)), (aQ, .inr (7, [.ref aM, .ref aS, .int (-1 : Int32)]))]) ⟨hx, hb, hml, hown, hB⟩ (c_Map_throughBlock l D aM aW aS aG aX aQ cW cG cX w g sp nx lt sm ex (-1 : Int32) p0 p1 (f_Map_matchingBlock p0 p1 sp)) yl_Map_throughBlock mw_325 hK hN hP hD hS hA [0, 1, 2] [0, 1, 2, 3, 4, 5] [] [0, 1, 2, 3, 4, 5] rfl rfl rfl rfl (by decide +kernel) 5 rfl rfl rfl rfl hl.1 rfl (Nat.le_of_ble_eq_true rfl) ⟨Nat.le_of_ble_eq_true rfl, Nat.le_of_ble_eq_true rfl⟩ d_Map_locate_48 ⟨Nat.le_of_ble_eq_true rfl, Nat.le_of_ble_eq_true rfl⟩ (fun H locs hP hD hS => ?_)
      have ef : f_Map_locate p0 p1 w sp = ((f_Map_throughBlock p0 p1 (f_Map_matchingBlock p0 p1 sp) sp), (-1 : Int32)) := by unfold f_Map_locate; try dsimp only; rw [if_neg h6, if_neg h7]
      exact k_iret hx hb hr hlocks hK hP hD hS [0, 1, 2, 3, 4, 5] rfl (by rw [ef] <;> rfl) (by rw [ef] <;> rfl) d_Map_locate_51
  · refine lv_iload_n hx hb d_Map_locate_27 rfl (lv_at hl 1 rfl) ?_
    refine lv_ldc (v := (65535 : Int32)) hx hb hown (hB _ mw_316) d_Map_locate_28 ?_
    refine lv_iand hx hb d_Map_locate_30 ?_
    have ef : f_Map_locate p0 p1 w sp = ((p0 &&& (65535 : Int32)), (-1 : Int32)) := by unfold f_Map_locate; try dsimp only; rw [if_pos h6]
    exact k_iret hx hb hr hlocks hK hP hD hS [0, 1, 2, 3, 4, 5] rfl (by rw [ef] <;> rfl) (by rw [ef] <;> rfl) d_Map_locate_31
/-! MappedProcessor$Mapper.mark(I)V -/
theorem d_Map_mark_0 : decode b_Map_mark 0 = .ok (.aload_n 0, 1) := by decide +kernel
theorem d_Map_mark_1 : decode b_Map_mark 1 = .ok (.getfield 19, 3) := by decide +kernel
theorem d_Map_mark_4 : decode b_Map_mark 4 = .ok (.iconst (-1), 1) := by decide +kernel
theorem d_Map_mark_5 : decode b_Map_mark 5 = .ok (.if_icmp .eq 42, 3) := by decide +kernel
theorem d_Map_mark_8 : decode b_Map_mark 8 = .ok (.iload_n 1, 1) := by decide +kernel
theorem d_Map_mark_9 : decode b_Map_mark 9 = .ok (.iconst 2, 1) := by decide +kernel
theorem d_Map_mark_10 : decode b_Map_mark 10 = .ok (.if_icmp .ne 9, 3) := by decide +kernel
theorem d_Map_mark_13 : decode b_Map_mark 13 = .ok (.sipush 384, 3) := by decide +kernel
theorem d_Map_mark_16 : decode b_Map_mark 16 = .ok (.goto 6, 3) := by decide +kernel
theorem d_Map_mark_19 : decode b_Map_mark 19 = .ok (.sipush 256, 3) := by decide +kernel
theorem d_Map_mark_22 : decode b_Map_mark 22 = .ok (.istore_n 2, 1) := by decide +kernel
theorem d_Map_mark_23 : decode b_Map_mark 23 = .ok (.aload_n 0, 1) := by decide +kernel
theorem d_Map_mark_24 : decode b_Map_mark 24 = .ok (.getfield 9, 3) := by decide +kernel
theorem d_Map_mark_27 : decode b_Map_mark 27 = .ok (.aload_n 0, 1) := by decide +kernel
theorem d_Map_mark_28 : decode b_Map_mark 28 = .ok (.getfield 19, 3) := by decide +kernel
theorem d_Map_mark_31 : decode b_Map_mark 31 = .ok (.aload_n 0, 1) := by decide +kernel
theorem d_Map_mark_32 : decode b_Map_mark 32 = .ok (.getfield 9, 3) := by decide +kernel
theorem d_Map_mark_35 : decode b_Map_mark 35 = .ok (.aload_n 0, 1) := by decide +kernel
theorem d_Map_mark_36 : decode b_Map_mark 36 = .ok (.getfield 19, 3) := by decide +kernel
theorem d_Map_mark_39 : decode b_Map_mark 39 = .ok (.invokevirtual 51, 3) := by decide +kernel
theorem d_Map_mark_42 : decode b_Map_mark 42 = .ok (.iload_n 2, 1) := by decide +kernel
theorem d_Map_mark_43 : decode b_Map_mark 43 = .ok (.ior, 1) := by decide +kernel
theorem d_Map_mark_44 : decode b_Map_mark 44 = .ok (.invokevirtual 56, 3) := by decide +kernel
theorem d_Map_mark_47 : decode b_Map_mark 47 = .ok (.return_, 1) := by decide +kernel
def f_Map_mark (p0 : Int32) (w : Nat → Int32) (en : Int32) : (Nat → Int32) :=
  if en = (-1 : Int32) then
    w
  else
    (f_Mem_keep en ((f_Mem_at en w) ||| (if p0 = (2 : Int32) then (384 : Int32) else (256 : Int32))) w)
set_option maxHeartbeats 4000000 in
set_option maxRecDepth 100000 in
theorem c_Map_mark (l : Launch) (D : va_G) (aM aW aS aG aX aQ : Nat) (cW cG cX : ClassId) (w : Nat → Int32) (g : Nat → Int32) (sp : Nat → Int32) (nx : Int32) (lt : Int32) (sm : Int32) (ex : Int32) (en : Int32) (p0 : Int32) : kMv l y_Map_mark b_Map_mark 3 none 1 22 D kCl [(cW, .int), (cG, .int), (cX, .int)] [.ref aQ, .int p0] [(aM, .inr (8, [.ref aW])), (aW, .inl (cW, 16384, .inl w)), (aS, .inr (9, [.ref aG, .ref aX, .int nx, .int lt, .int sm, .int ex])), (aG, .inl (cG, 32, .inl g)), (aX, .inl (cX, 64, .inl sp)), (aQ, .inr (7, [.ref aM, .ref aS, .int en]))] [(aM, .inr (8, [.ref aW])), (aW, .inl (cW, 16384, .inl (f_Map_mark p0 w en))), (aS, .inr (9, [.ref aG, .ref aX, .int nx, .int lt, .int sm, .int ex])), (aG, .inl (cG, 32, .inl g)), (aX, .inl (cX, 64, .inl sp)), (aQ, .inr (7, [.ref aM, .ref aS, .int en]))] := by
  refine k_entry (Qc := fun A => kQv D kCl [(cW, .int), (cG, .int), (cX, .int)] [(aM, .inr (8, [.ref aW])), (aW, .inl (cW, 16384, .inl (f_Map_mark p0 w en))), (aS, .inr (9, [.ref aG, .ref aX, .int nx, .int lt, .int sm, .int ex])), (aG, .inl (cG, 32, .inl g)), (aX, .inl (cX, 64, .inl sp)), (aQ, .inr (7, [.ref aM, .ref aS, .int en]))] A) (lv := [(0, .ref aQ), (1, .int p0)]) (by decide) (Nat.le_of_ble_eq_true rfl) rfl ?_
  intro p e s m below meth c A ls hx hb hr hml hB hown hlocks hin hA hK hN hP hD hS hl
  have hown : s.vm.findClass "MappedProcessor$Mapper" = some m.cls := hown
  refine lv_aload_n hx hb d_Map_mark_0 rfl (lv_at hl 0 rfl) ?_
  refine va_get (D := D) (ci := 7) (v := .int en) (C := "MappedProcessor$Mapper") (T := T_Map) (N := 3) hx hb hB iw_Map hown hK hP 5 rfl rfl 2 (by decide) (hB _ mw_66) (fun _ h9 => h9) rfl d_Map_mark_1 ?_
  refine lv_iconst (v := (-1 : Int32)) hx hb d_Map_mark_4 (by decide) ?_
  refine lv_icmp_eq (tgt := 47) hx hb d_Map_mark_5 (by decide) (fun (h9 : en = (-1 : Int32)) => ?_) (fun (h9 : ¬ en = (-1 : Int32)) => ?_)
  · have ef : f_Map_mark p0 w en = w := by unfold f_Map_mark; rw [if_pos h9]
    exact k_vret hx hb hr hlocks hK hP hD hS [0, 1, 2, 3, 4, 5] rfl (by rw [ef] <;> rfl) d_Map_mark_47
  · refine lv_iload_n hx hb d_Map_mark_8 rfl (lv_at hl 1 rfl) ?_
    refine lv_iconst (v := (2 : Int32)) hx hb d_Map_mark_9 (by decide) ?_
    refine k_join2 (c0 := p0 = (2 : Int32)) (x1 := (384 : Int32)) (x2 := (256 : Int32)) (rest := []) 22 ?_ (fun k11 k12 => ?_)
    rotate_left
    · refine lv_icmp_ne (tgt := 19) hx hb d_Map_mark_10 (by decide) (fun (h10 : ¬ p0 = (2 : Int32)) => ?_) (fun (h10 : p0 = (2 : Int32)) => ?_)
      · refine lv_sipush (v := (256 : Int32)) hx hb d_Map_mark_19 (by decide) ?_
        exact k12 h10
      · refine lv_sipush (v := (384 : Int32)) hx hb d_Map_mark_13 (by decide) ?_
        refine lv_goto (tgt := 22) hx hb d_Map_mark_16 (by decide) ?_
        exact k11 h10
    refine lv_istore_n (lv' := [(2, .int (if p0 = (2 : Int32) then (384 : Int32) else (256 : Int32))), (0, .ref aQ), (1, .int p0)]) hx hb d_Map_mark_22 rfl hl (by decide) rfl (fun ls hl => ?_)
    refine lv_aload_n hx hb d_Map_mark_23 rfl (lv_at hl 1 rfl) ?_
    refine va_get (D := D) (ci := 7) (v := .ref aM) (C := "MappedProcessor$Mapper") (T := T_Map) (N := 3) hx hb hB iw_Map hown hK hP 5 rfl rfl 0 (by decide) (hB _ mw_64) (fun _ h9 => h9) rfl d_Map_mark_24 ?_
    refine lv_aload_n hx hb d_Map_mark_27 rfl (lv_at hl 1 rfl) ?_
    refine va_get (D := D) (ci := 7) (v := .int en) (C := "MappedProcessor$Mapper") (T := T_Map) (N := 3) hx hb hB iw_Map hown hK hP 5 rfl rfl 2 (by decide) (hB _ mw_66) (fun _ h9 => h9) rfl d_Map_mark_28 ?_
    refine lv_aload_n hx hb d_Map_mark_31 rfl (lv_at hl 1 rfl) ?_
    refine va_get (D := D) (ci := 7) (v := .ref aM) (C := "MappedProcessor$Mapper") (T := T_Map) (N := 3) hx hb hB iw_Map hown hK hP 5 rfl rfl 0 (by decide) (hB _ mw_64) (fun _ h9 => h9) rfl d_Map_mark_32 ?_
    refine lv_aload_n hx hb d_Map_mark_35 rfl (lv_at hl 1 rfl) ?_
    refine va_get (D := D) (ci := 7) (v := .int en) (C := "MappedProcessor$Mapper") (T := T_Map) (N := 3) hx hb hB iw_Map hown hK hP 5 rfl rfl 2 (by decide) (hB _ mw_66) (fun _ h9 => h9) rfl d_Map_mark_36 ?_
    refine k_cVi (As := [.int en]) (rest := [.int en, .ref aM]) (wr := [(aS, .inr (9, [.ref aG, .ref aX, .int nx, .int lt, .int sm, .int ex])), (aG, .inl (cG, 32, .inl g)), (aX, .inl (cX, 64, .inl sp)), (aQ, .inr (7, [.ref aM, .ref aS, .int en]))]) (wj := [(aM, .inr (8, [.ref aW])), (aW, .inl (cW, 16384, .inl w)), (aS, .inr (9, [.ref aG, .ref aX, .int nx, .int lt, .int sm, .int ex])), (aG, .inl (cG, 32, .inl g)), (aX, .inl (cX, 64, .inl sp)), (aQ, .inr (7, [.ref aM, .ref aS, .int en]))]) ⟨hx, hb, hml, hown, hB⟩ (c_Mem_at l D aM aW cW w en) yl_Mem_at mw_338 hK hN hP hD hS hA [0] [0, 1] [2, 3, 4, 5] [4, 5, 0, 1, 2, 3] rfl rfl rfl rfl (by decide +kernel) 0 rfl rfl rfl rfl hl.1 rfl (Nat.le_of_ble_eq_true rfl) ⟨Nat.le_of_ble_eq_true rfl, Nat.le_of_ble_eq_true rfl⟩ d_Map_mark_39 ⟨Nat.le_of_ble_eq_true rfl, Nat.le_of_ble_eq_true rfl⟩ (fun H locs hP hD hS => ?_)
    refine lv_iload_n hx hb d_Map_mark_42 rfl (lv_at hl 0 rfl) ?_
    refine lv_ior hx hb d_Map_mark_43 ?_
    refine k_cVv (As := [.int en, .int ((f_Mem_at en w) ||| (if p0 = (2 : Int32) then (384 : Int32) else (256 : Int32)))]) (rest := []) (wr := [(aS, .inr (9, [.ref aG, .ref aX, .int nx, .int lt, .int sm, .int ex])), (aG, .inl (cG, 32, .inl g)), (aX, .inl (cX, 64, .inl sp)), (aQ, .inr (7, [.ref aM, .ref aS, .int en]))]) (wj := [(aM, .inr (8, [.ref aW])), (aW, .inl (cW, 16384, .inl (f_Mem_keep en ((f_Mem_at en w) ||| (if p0 = (2 : Int32) then (384 : Int32) else (256 : Int32))) w))), (aS, .inr (9, [.ref aG, .ref aX, .int nx, .int lt, .int sm, .int ex])), (aG, .inl (cG, 32, .inl g)), (aX, .inl (cX, 64, .inl sp)), (aQ, .inr (7, [.ref aM, .ref aS, .int en]))]) ⟨hx, hb, hml, hown, hB⟩ (c_Mem_keep l D aM aW cW w en ((f_Mem_at en w) ||| (if p0 = (2 : Int32) then (384 : Int32) else (256 : Int32)))) yl_Mem_keep mw_364 hK hN hP hD hS hA [0] [0, 1] [2, 3, 4, 5] [4, 5, 0, 1, 2, 3] rfl rfl rfl rfl (by decide +kernel) 0 rfl rfl rfl rfl hl.1 rfl (Nat.le_of_ble_eq_true rfl) ⟨Nat.le_of_ble_eq_true rfl, Nat.le_of_ble_eq_true rfl⟩ d_Map_mark_44 ⟨Nat.le_of_ble_eq_true rfl, Nat.le_of_ble_eq_true rfl⟩ (fun H locs hP hD hS => ?_)
    have ef : f_Map_mark p0 w en = (f_Mem_keep en ((f_Mem_at en w) ||| (if p0 = (2 : Int32) then (384 : Int32) else (256 : Int32))) w) := by unfold f_Map_mark; rw [if_neg h9]
    exact k_vret hx hb hr hlocks hK hP hD hS [0, 1, 2, 3, 4, 5] rfl (by rw [ef] <;> rfl) d_Map_mark_47
