theorem nn_bit (x : Int32) : 0 ≤ x ↔ bt x 31 = false := by
  have hl := un_lt x
  have e : bt x 31 = (un x).testBit 31 := by
    rw [un_nI x, bt_nI _ 31 (by omega), ← un_nI x]
  rw [e, Int32.le_iff_toInt_le, Int32.toInt_zero, un_toInt, Nat.testBit_eq_decide_div_mod_eq, decide_eq_false_iff_not]
  by_cases h : un x < 2 ^ 31
  · rw [if_pos h]; omega
  · rw [if_neg h]; omega
theorem four_ne {S : Int32} (h0 : 0 ≤ S) (h : S < 16383) : ¬ 4 * S + 4 = -1 := by
  obtain ⟨k, hk, rfl⟩ := s_nI h0 h
  rw [show (4 : Int32) = nI 4 from rfl, pk_mul, nI_add]
  intro q
  have h1 : (nI (4 * k + 4)).toInt = (4 * k + 4 : Nat) := nI_toInt (by omega)
  rw [q] at h1
  have e : (-1 : Int32).toInt = -1 := by decide
  omega
theorem pages_LR (p0 p1 : Int32) (w sp : Nat → Int32) : LR (if f_Map_findEntry (sg p0 sp &&& 16777215) (ush p0 12 &&& 65535) w sp = -1 then (-1, -1) else ((f_Map_throughEntry p0 p1 (sg p0 sp) (f_Map_findEntry (sg p0 sp &&& 16777215) (ush p0 12 &&& 65535) w sp) w sp (-1)).1, (f_Map_throughEntry p0 p1 (sg p0 sp) (f_Map_findEntry (sg p0 sp &&& 16777215) (ush p0 12 &&& 65535) w sp) w sp (-1)).2)) (pgX p0 p1 (f_Ref_bit (sg p0 sp) (if f_Ref_bit (sp 1) 14 = 0 then (30 : Int32) else 29)) (sa p0 sp w) (sb p0 sp w) w 0 (-1)) := by
  have fe := find_eq (sg p0 sp &&& 16777215) (ush p0 12 &&& 65535) w sp
  unfold pgX
  by_cases a : 0 ≤ sa p0 sp w
  · rw [if_pos a] at fe ⊢
    rw [fe, if_neg (four_ne a (se_lt _ _ _ _))]
    exact entry_LR p0 p1 (sg p0 sp) (sa p0 sp w) w sp a (se_lt _ _ _ _)
  · rw [if_neg a] at fe ⊢
    by_cases b : 0 ≤ sb p0 sp w
    · rw [if_pos b] at fe ⊢
      rw [fe, if_neg (four_ne b (se_lt _ _ _ _))]
      exact entry_LR p0 p1 (sg p0 sp) (sb p0 sp w) w sp b (se_lt _ _ _ _)
    · rw [if_neg b] at fe ⊢
      rw [if_pos fe]
      exact Or.inr ⟨Or.inl rfl, rfl⟩
set_option maxHeartbeats 4000000 in
set_option maxRecDepth 100000 in
theorem loc_LR (p0 p1 : Int32) (w sp : Nat → Int32) : LR (f_Map_locate p0 p1 w sp) (f_Ref_resolve p0 p1 sp w) := by
  rw [rs_nf]
  unfold f_Map_locate
  dsimp only
  rw [show f_Sta_read (32 + ush p0 28) sp = sg p0 sp from read_ix _ _ (ix_seg2 p0)]
  have c1 : (f_Sta_has 1 (if p1 = 0 then (32 : Int32) else 16) sp = 0) ↔ (f_Ref_bit (sp 1) (if p1 = 0 then (5 : Int32) else 4) = 0) := by
    by_cases q : p1 = 0
    · rw [if_pos q, if_pos q]
      exact (has_bit 5 (by omega) 32 (by decide) sp).trans (rbit0 (sp 1) 5 (by omega)).symm
    · rw [if_neg q, if_neg q]
      exact (has_bit 4 (by omega) 16 (by decide) sp).trans (rbit0 (sp 1) 4 (by omega)).symm
  by_cases h1 : f_Ref_bit (sp 1) (if p1 = 0 then (5 : Int32) else 4) = 0
  · rw [if_pos (c1.mpr h1), if_pos h1]
    exact Or.inl ⟨rfl, rfl, Or.inl ⟨rfl, rfl⟩⟩
  rw [if_neg (fun q => h1 (c1.mp q)), if_neg h1]
  have mb := mb_nf p0 p1 sp
  by_cases m0 : mk p0 (ub p1 0 sp) sp
  · rw [if_pos m0] at mb ⊢
    rw [if_neg (show ¬ f_Map_matchingBlock p0 p1 sp = -1 from by rw [mb]; split <;> decide), mb]
    exact blk_LR p0 p1 0 _ sp (rd_ub p1 0 sp (by unfold vp_in; decide) (by unfold vp_in; decide)) (rd_lb p1 0 0 sp (by unfold vp_in; decide) (by unfold vp_in; decide) (by decide) (by decide))
  rw [if_neg m0] at mb ⊢
  by_cases m2 : mk p0 (ub p1 2 sp) sp
  · rw [if_pos m2] at mb ⊢
    rw [if_neg (show ¬ f_Map_matchingBlock p0 p1 sp = -1 from by rw [mb]; split <;> decide), mb]
    exact blk_LR p0 p1 2 _ sp (rd_ub p1 2 sp (by unfold vp_in; decide) (by unfold vp_in; decide)) (rd_lb p1 2 0 sp (by unfold vp_in; decide) (by unfold vp_in; decide) (by decide) (by decide))
  rw [if_neg m2] at mb ⊢
  by_cases m4 : mk p0 (ub p1 4 sp) sp
  · rw [if_pos m4] at mb ⊢
    rw [if_neg (show ¬ f_Map_matchingBlock p0 p1 sp = -1 from by rw [mb]; split <;> decide), mb]
    exact blk_LR p0 p1 4 _ sp (rd_ub p1 4 sp (by unfold vp_in; decide) (by unfold vp_in; decide)) (rd_lb p1 4 0 sp (by unfold vp_in; decide) (by unfold vp_in; decide) (by decide) (by decide))
  rw [if_neg m4] at mb ⊢
  by_cases m6 : mk p0 (ub p1 6 sp) sp
  · rw [if_pos m6] at mb ⊢
    rw [if_neg (show ¬ f_Map_matchingBlock p0 p1 sp = -1 from by rw [mb]; split <;> decide), mb]
    exact blk_LR p0 p1 6 _ sp (rd_ub p1 6 sp (by unfold vp_in; decide) (by unfold vp_in; decide)) (rd_lb p1 6 0 sp (by unfold vp_in; decide) (by unfold vp_in; decide) (by decide) (by decide))
  rw [if_neg m6] at mb ⊢
  rw [if_pos mb]
  have K := pages_LR p0 p1 w sp
  show LR _ (f_Ref_paged p0 p1 (f_Ref_bit (sp 1) 14) sp w 0 (-1))
  rw [pg_nf]
  have e31 : 0 ≤ sg p0 sp ↔ f_Ref_bit (sg p0 sp) 31 = 0 := (nn_bit _).trans (rbit0 _ 31 (by omega)).symm
  have e28 : (sg p0 sp &&& 268435456) = 0 ↔ f_Ref_bit (sg p0 sp) 28 = 0 := (mtest _ 28 (by omega)).trans (rbit0 _ 28 (by omega)).symm
  by_cases b31 : f_Ref_bit (sg p0 sp) 31 = 0
  · rw [if_pos (e31.mpr b31), if_pos b31]
    by_cases q : p1 = 0
    · rw [if_pos q, if_pos q]
      by_cases b28 : f_Ref_bit (sg p0 sp) 28 = 0
      · rw [if_pos (e28.mpr b28), if_pos b28]; exact K
      · rw [if_neg (fun z => b28 (e28.mp z)), if_neg b28]
        exact Or.inr ⟨Or.inr (Or.inr rfl), rfl⟩
    · rw [if_neg q, if_neg q]; exact K
  · rw [if_neg (fun z => b31 (e31.mp z)), if_neg b31]
    exact Or.inr ⟨Or.inl rfl, rfl⟩
