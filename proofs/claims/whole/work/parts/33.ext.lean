theorem carry_eq (rs : Nat → Int32) : f_Ref_carryIn rs = f_Sta_carry rs := by
  have e1 : f_Ref_carryIn rs = ob (bt (rs 3) 29) := shr_1 (rs 3) 29 (by omega)
  have e2 : (rs 3 &&& 536870912) = 0 ↔ bt (rs 3) 29 = false := mtest (rs 3) 29 (by omega)
  have e3 : f_Sta_has 3 536870912 rs = (if (rs 3 &&& 536870912) = 0 then 0 else 1) := rfl
  rw [e1]
  unfold f_Sta_carry
  rw [e3]
  cases h : bt (rs 3) 29
  · rw [if_pos (e2.mpr h)]; rfl
  · have n : ¬ (rs 3 &&& 536870912) = 0 := fun z => by rw [e2.mp z] at h; cases h
    rw [if_neg n]; rfl
section OPX
variable (w g sp : Nat → Int32) (nx lt ex en iw id ia ib is iu rr re rw : Int32)
theorem opx266 (hd : vp_in id 32) (ha : vp_in ia 32) (hb : vp_in ib 32) : IRl ex (f_Pro_performs w g sp nx lt ex en iw 31 id ia ib 266 is iu) (f_Ref_extended 266 g sp w lt rr re iw id ia ib nx 0 rw) := by
  have e1 : f_Pro_performs w g sp nx lt ex en iw 31 id ia ib 266 is iu = (1, w, (f_Sta_keepResult id ((g (ix (ia &&& 31))) + (g (ix (ib &&& 31)))) (f_Ins_has 1 iw) g sp).1, (f_Sta_keepResult id ((g (ix (ia &&& 31))) + (g (ix (ib &&& 31)))) (f_Ins_has 1 iw) g sp).2, nx, lt, ex, en) := rfl
  have e2 : f_Ref_extended 266 g sp w lt rr re iw id ia ib nx 0 rw = ((f_Ref_result id ((g (ix ia)) + (g (ix ib))) g sp iw).1, (f_Ref_result id ((g (ix ia)) + (g (ix ib))) g sp iw).2, w, lt, rr, re, nx, 0, rw) := rfl
  rw [e1, e2, res_eq hd, and31 ha, and31 hb]
  exact ⟨rfl, rfl, rfl, rfl, rfl, rfl, Or.inl ⟨rfl, rfl⟩⟩
theorem opx40 (hd : vp_in id 32) (ha : vp_in ia 32) (hb : vp_in ib 32) : IRl ex (f_Pro_performs w g sp nx lt ex en iw 31 id ia ib 40 is iu) (f_Ref_extended 40 g sp w lt rr re iw id ia ib nx 0 rw) := by
  have e1 : f_Pro_performs w g sp nx lt ex en iw 31 id ia ib 40 is iu = (1, w, (f_Sta_keepResult id ((g (ix (ib &&& 31))) - (g (ix (ia &&& 31)))) (f_Ins_has 1 iw) g sp).1, (f_Sta_keepResult id ((g (ix (ib &&& 31))) - (g (ix (ia &&& 31)))) (f_Ins_has 1 iw) g sp).2, nx, lt, ex, en) := rfl
  have e2 : f_Ref_extended 40 g sp w lt rr re iw id ia ib nx 0 rw = ((f_Ref_result id ((g (ix ib)) - (g (ix ia))) g sp iw).1, (f_Ref_result id ((g (ix ib)) - (g (ix ia))) g sp iw).2, w, lt, rr, re, nx, 0, rw) := rfl
  rw [e1, e2, res_eq hd, and31 ha, and31 hb]
  exact ⟨rfl, rfl, rfl, rfl, rfl, rfl, Or.inl ⟨rfl, rfl⟩⟩
theorem opx104 (hd : vp_in id 32) (ha : vp_in ia 32) (hb : vp_in ib 32) : IRl ex (f_Pro_performs w g sp nx lt ex en iw 31 id ia ib 104 is iu) (f_Ref_extended 104 g sp w lt rr re iw id ia ib nx 0 rw) := by
  have e1 : f_Pro_performs w g sp nx lt ex en iw 31 id ia ib 104 is iu = (1, w, (f_Sta_keepResult id (-(g (ix (ia &&& 31)))) (f_Ins_has 1 iw) g sp).1, (f_Sta_keepResult id (-(g (ix (ia &&& 31)))) (f_Ins_has 1 iw) g sp).2, nx, lt, ex, en) := rfl
  have e2 : f_Ref_extended 104 g sp w lt rr re iw id ia ib nx 0 rw = ((f_Ref_result id (-(g (ix ia))) g sp iw).1, (f_Ref_result id (-(g (ix ia))) g sp iw).2, w, lt, rr, re, nx, 0, rw) := rfl
  rw [e1, e2, res_eq hd, and31 ha]
  exact ⟨rfl, rfl, rfl, rfl, rfl, rfl, Or.inl ⟨rfl, rfl⟩⟩
theorem opx235 (hd : vp_in id 32) (ha : vp_in ia 32) (hb : vp_in ib 32) : IRl ex (f_Pro_performs w g sp nx lt ex en iw 31 id ia ib 235 is iu) (f_Ref_extended 235 g sp w lt rr re iw id ia ib nx 0 rw) := by
  have e1 : f_Pro_performs w g sp nx lt ex en iw 31 id ia ib 235 is iu = (1, w, (f_Sta_keepResult id ((g (ix (ia &&& 31))) * (g (ix (ib &&& 31)))) (f_Ins_has 1 iw) g sp).1, (f_Sta_keepResult id ((g (ix (ia &&& 31))) * (g (ix (ib &&& 31)))) (f_Ins_has 1 iw) g sp).2, nx, lt, ex, en) := rfl
  have e2 : f_Ref_extended 235 g sp w lt rr re iw id ia ib nx 0 rw = ((f_Ref_result id ((g (ix ia)) * (g (ix ib))) g sp iw).1, (f_Ref_result id ((g (ix ia)) * (g (ix ib))) g sp iw).2, w, lt, rr, re, nx, 0, rw) := rfl
  rw [e1, e2, res_eq hd, and31 ha, and31 hb]
  exact ⟨rfl, rfl, rfl, rfl, rfl, rfl, Or.inl ⟨rfl, rfl⟩⟩
theorem opx75 (hd : vp_in id 32) (ha : vp_in ia 32) (hb : vp_in ib 32) : IRl ex (f_Pro_performs w g sp nx lt ex en iw 31 id ia ib 75 is iu) (f_Ref_extended 75 g sp w lt rr re iw id ia ib nx 0 rw) := by
  have e1 : f_Pro_performs w g sp nx lt ex en iw 31 id ia ib 75 is iu = (1, w, (f_Sta_keepResult id ((lshr ((g (ix (ia &&& 31))).toInt64 * (g (ix (ib &&& 31))).toInt64) 32).toInt32) (f_Ins_has 1 iw) g sp).1, (f_Sta_keepResult id ((lshr ((g (ix (ia &&& 31))).toInt64 * (g (ix (ib &&& 31))).toInt64) 32).toInt32) (f_Ins_has 1 iw) g sp).2, nx, lt, ex, en) := rfl
  have e2 : f_Ref_extended 75 g sp w lt rr re iw id ia ib nx 0 rw = ((f_Ref_result id ((lshr ((g (ix ia)).toInt64 * (g (ix ib)).toInt64) 32).toInt32) g sp iw).1, (f_Ref_result id ((lshr ((g (ix ia)).toInt64 * (g (ix ib)).toInt64) 32).toInt32) g sp iw).2, w, lt, rr, re, nx, 0, rw) := rfl
  rw [e1, e2, res_eq hd, and31 ha, and31 hb]
  exact ⟨rfl, rfl, rfl, rfl, rfl, rfl, Or.inl ⟨rfl, rfl⟩⟩
theorem opx11 (hd : vp_in id 32) (ha : vp_in ia 32) (hb : vp_in ib 32) : IRl ex (f_Pro_performs w g sp nx lt ex en iw 31 id ia ib 11 is iu) (f_Ref_extended 11 g sp w lt rr re iw id ia ib nx 0 rw) := by
  have e1 : f_Pro_performs w g sp nx lt ex en iw 31 id ia ib 11 is iu = (1, w, (f_Sta_keepResult id ((lush (((g (ix (ia &&& 31))).toInt64 &&& 4294967295) * ((g (ix (ib &&& 31))).toInt64 &&& 4294967295)) 32).toInt32) (f_Ins_has 1 iw) g sp).1, (f_Sta_keepResult id ((lush (((g (ix (ia &&& 31))).toInt64 &&& 4294967295) * ((g (ix (ib &&& 31))).toInt64 &&& 4294967295)) 32).toInt32) (f_Ins_has 1 iw) g sp).2, nx, lt, ex, en) := rfl
  have e2 : f_Ref_extended 11 g sp w lt rr re iw id ia ib nx 0 rw = ((f_Ref_result id ((lush (((g (ix ia)).toInt64 &&& 4294967295) * ((g (ix ib)).toInt64 &&& 4294967295)) 32).toInt32) g sp iw).1, (f_Ref_result id ((lush (((g (ix ia)).toInt64 &&& 4294967295) * ((g (ix ib)).toInt64 &&& 4294967295)) 32).toInt32) g sp iw).2, w, lt, rr, re, nx, 0, rw) := rfl
  rw [e1, e2, res_eq hd, and31 ha, and31 hb]
  exact ⟨rfl, rfl, rfl, rfl, rfl, rfl, Or.inl ⟨rfl, rfl⟩⟩
theorem opx10 (hd : vp_in id 32) (ha : vp_in ia 32) (hb : vp_in ib 32) : IRl ex (f_Pro_performs w g sp nx lt ex en iw 31 id ia ib 10 is iu) (f_Ref_extended 10 g sp w lt rr re iw id ia ib nx 0 rw) := by
  have e1 : f_Pro_performs w g sp nx lt ex en iw 31 id ia ib 10 is iu = (1, w, (f_Sta_keepResult id (f_Ari_sumWithCarry (g (ix (ia &&& 31))) (g (ix (ib &&& 31))) 0 sp).1 (f_Ins_has 1 iw) g (f_Ari_sumWithCarry (g (ix (ia &&& 31))) (g (ix (ib &&& 31))) 0 sp).2).1, (f_Sta_keepResult id (f_Ari_sumWithCarry (g (ix (ia &&& 31))) (g (ix (ib &&& 31))) 0 sp).1 (f_Ins_has 1 iw) g (f_Ari_sumWithCarry (g (ix (ia &&& 31))) (g (ix (ib &&& 31))) 0 sp).2).2, nx, lt, ex, en) := rfl
  have e2 : f_Ref_extended 10 g sp w lt rr re iw id ia ib nx 0 rw = ((f_Ref_result id (f_Ref_sum (g (ix ia)) (g (ix ib)) 0 sp).1 g (f_Ref_sum (g (ix ia)) (g (ix ib)) 0 sp).2 iw).1, (f_Ref_result id (f_Ref_sum (g (ix ia)) (g (ix ib)) 0 sp).1 g (f_Ref_sum (g (ix ia)) (g (ix ib)) 0 sp).2 iw).2, w, lt, rr, re, nx, 0, rw) := rfl
  rw [e1, e2, res_eq hd, and31 ha, and31 hb, sum_eq]
  exact ⟨rfl, rfl, rfl, rfl, rfl, rfl, Or.inl ⟨rfl, rfl⟩⟩
theorem opx8 (hd : vp_in id 32) (ha : vp_in ia 32) (hb : vp_in ib 32) : IRl ex (f_Pro_performs w g sp nx lt ex en iw 31 id ia ib 8 is iu) (f_Ref_extended 8 g sp w lt rr re iw id ia ib nx 0 rw) := by
  have e1 : f_Pro_performs w g sp nx lt ex en iw 31 id ia ib 8 is iu = (1, w, (f_Sta_keepResult id (f_Ari_sumWithCarry ((g (ix (ia &&& 31))) ^^^ -1) (g (ix (ib &&& 31))) 1 sp).1 (f_Ins_has 1 iw) g (f_Ari_sumWithCarry ((g (ix (ia &&& 31))) ^^^ -1) (g (ix (ib &&& 31))) 1 sp).2).1, (f_Sta_keepResult id (f_Ari_sumWithCarry ((g (ix (ia &&& 31))) ^^^ -1) (g (ix (ib &&& 31))) 1 sp).1 (f_Ins_has 1 iw) g (f_Ari_sumWithCarry ((g (ix (ia &&& 31))) ^^^ -1) (g (ix (ib &&& 31))) 1 sp).2).2, nx, lt, ex, en) := rfl
  have e2 : f_Ref_extended 8 g sp w lt rr re iw id ia ib nx 0 rw = ((f_Ref_result id (f_Ref_sum (g (ix ib)) ((g (ix ia)) ^^^ -1) 1 sp).1 g (f_Ref_sum (g (ix ib)) ((g (ix ia)) ^^^ -1) 1 sp).2 iw).1, (f_Ref_result id (f_Ref_sum (g (ix ib)) ((g (ix ia)) ^^^ -1) 1 sp).1 g (f_Ref_sum (g (ix ib)) ((g (ix ia)) ^^^ -1) 1 sp).2 iw).2, w, lt, rr, re, nx, 0, rw) := rfl
  rw [e1, e2, res_eq hd, and31 ha, and31 hb, sum_comm]
  exact ⟨rfl, rfl, rfl, rfl, rfl, rfl, Or.inl ⟨rfl, rfl⟩⟩
theorem opx138 (hd : vp_in id 32) (ha : vp_in ia 32) (hb : vp_in ib 32) : IRl ex (f_Pro_performs w g sp nx lt ex en iw 31 id ia ib 138 is iu) (f_Ref_extended 138 g sp w lt rr re iw id ia ib nx 0 rw) := by
  have e1 : f_Pro_performs w g sp nx lt ex en iw 31 id ia ib 138 is iu = (1, w, (f_Sta_keepResult id (f_Ari_sumWithCarry (g (ix (ia &&& 31))) (g (ix (ib &&& 31))) (f_Sta_carry sp) sp).1 (f_Ins_has 1 iw) g (f_Ari_sumWithCarry (g (ix (ia &&& 31))) (g (ix (ib &&& 31))) (f_Sta_carry sp) sp).2).1, (f_Sta_keepResult id (f_Ari_sumWithCarry (g (ix (ia &&& 31))) (g (ix (ib &&& 31))) (f_Sta_carry sp) sp).1 (f_Ins_has 1 iw) g (f_Ari_sumWithCarry (g (ix (ia &&& 31))) (g (ix (ib &&& 31))) (f_Sta_carry sp) sp).2).2, nx, lt, ex, en) := rfl
  have e2 : f_Ref_extended 138 g sp w lt rr re iw id ia ib nx 0 rw = ((f_Ref_result id (f_Ref_sum (g (ix ia)) (g (ix ib)) (f_Ref_carryIn sp) sp).1 g (f_Ref_sum (g (ix ia)) (g (ix ib)) (f_Ref_carryIn sp) sp).2 iw).1, (f_Ref_result id (f_Ref_sum (g (ix ia)) (g (ix ib)) (f_Ref_carryIn sp) sp).1 g (f_Ref_sum (g (ix ia)) (g (ix ib)) (f_Ref_carryIn sp) sp).2 iw).2, w, lt, rr, re, nx, 0, rw) := rfl
  rw [e1, e2, res_eq hd, and31 ha, and31 hb, sum_eq, carry_eq]
  exact ⟨rfl, rfl, rfl, rfl, rfl, rfl, Or.inl ⟨rfl, rfl⟩⟩
theorem opx136 (hd : vp_in id 32) (ha : vp_in ia 32) (hb : vp_in ib 32) : IRl ex (f_Pro_performs w g sp nx lt ex en iw 31 id ia ib 136 is iu) (f_Ref_extended 136 g sp w lt rr re iw id ia ib nx 0 rw) := by
  have e1 : f_Pro_performs w g sp nx lt ex en iw 31 id ia ib 136 is iu = (1, w, (f_Sta_keepResult id (f_Ari_sumWithCarry ((g (ix (ia &&& 31))) ^^^ -1) (g (ix (ib &&& 31))) (f_Sta_carry sp) sp).1 (f_Ins_has 1 iw) g (f_Ari_sumWithCarry ((g (ix (ia &&& 31))) ^^^ -1) (g (ix (ib &&& 31))) (f_Sta_carry sp) sp).2).1, (f_Sta_keepResult id (f_Ari_sumWithCarry ((g (ix (ia &&& 31))) ^^^ -1) (g (ix (ib &&& 31))) (f_Sta_carry sp) sp).1 (f_Ins_has 1 iw) g (f_Ari_sumWithCarry ((g (ix (ia &&& 31))) ^^^ -1) (g (ix (ib &&& 31))) (f_Sta_carry sp) sp).2).2, nx, lt, ex, en) := rfl
  have e2 : f_Ref_extended 136 g sp w lt rr re iw id ia ib nx 0 rw = ((f_Ref_result id (f_Ref_sum ((g (ix ia)) ^^^ -1) (g (ix ib)) (f_Ref_carryIn sp) sp).1 g (f_Ref_sum ((g (ix ia)) ^^^ -1) (g (ix ib)) (f_Ref_carryIn sp) sp).2 iw).1, (f_Ref_result id (f_Ref_sum ((g (ix ia)) ^^^ -1) (g (ix ib)) (f_Ref_carryIn sp) sp).1 g (f_Ref_sum ((g (ix ia)) ^^^ -1) (g (ix ib)) (f_Ref_carryIn sp) sp).2 iw).2, w, lt, rr, re, nx, 0, rw) := rfl
  rw [e1, e2, res_eq hd, and31 ha, and31 hb, sum_eq, carry_eq]
  exact ⟨rfl, rfl, rfl, rfl, rfl, rfl, Or.inl ⟨rfl, rfl⟩⟩
theorem opx28 (hd : vp_in id 32) (ha : vp_in ia 32) (hb : vp_in ib 32) : IRl ex (f_Pro_performs w g sp nx lt ex en iw 31 id ia ib 28 is iu) (f_Ref_extended 28 g sp w lt rr re iw id ia ib nx 0 rw) := by
  have e1 : f_Pro_performs w g sp nx lt ex en iw 31 id ia ib 28 is iu = (1, w, (f_Sta_keepResult ia ((g (ix (id &&& 31))) &&& (g (ix (ib &&& 31)))) (f_Ins_has 1 iw) g sp).1, (f_Sta_keepResult ia ((g (ix (id &&& 31))) &&& (g (ix (ib &&& 31)))) (f_Ins_has 1 iw) g sp).2, nx, lt, ex, en) := rfl
  have e2 : f_Ref_extended 28 g sp w lt rr re iw id ia ib nx 0 rw = ((f_Ref_result ia ((g (ix id)) &&& (g (ix ib))) g sp iw).1, (f_Ref_result ia ((g (ix id)) &&& (g (ix ib))) g sp iw).2, w, lt, rr, re, nx, 0, rw) := rfl
  rw [e1, e2, res_eq ha, and31 hd, and31 hb]
  exact ⟨rfl, rfl, rfl, rfl, rfl, rfl, Or.inl ⟨rfl, rfl⟩⟩
theorem opx444 (hd : vp_in id 32) (ha : vp_in ia 32) (hb : vp_in ib 32) : IRl ex (f_Pro_performs w g sp nx lt ex en iw 31 id ia ib 444 is iu) (f_Ref_extended 444 g sp w lt rr re iw id ia ib nx 0 rw) := by
  have e1 : f_Pro_performs w g sp nx lt ex en iw 31 id ia ib 444 is iu = (1, w, (f_Sta_keepResult ia ((g (ix (id &&& 31))) ||| (g (ix (ib &&& 31)))) (f_Ins_has 1 iw) g sp).1, (f_Sta_keepResult ia ((g (ix (id &&& 31))) ||| (g (ix (ib &&& 31)))) (f_Ins_has 1 iw) g sp).2, nx, lt, ex, en) := rfl
  have e2 : f_Ref_extended 444 g sp w lt rr re iw id ia ib nx 0 rw = ((f_Ref_result ia ((g (ix id)) ||| (g (ix ib))) g sp iw).1, (f_Ref_result ia ((g (ix id)) ||| (g (ix ib))) g sp iw).2, w, lt, rr, re, nx, 0, rw) := rfl
  rw [e1, e2, res_eq ha, and31 hd, and31 hb]
  exact ⟨rfl, rfl, rfl, rfl, rfl, rfl, Or.inl ⟨rfl, rfl⟩⟩
theorem opx316 (hd : vp_in id 32) (ha : vp_in ia 32) (hb : vp_in ib 32) : IRl ex (f_Pro_performs w g sp nx lt ex en iw 31 id ia ib 316 is iu) (f_Ref_extended 316 g sp w lt rr re iw id ia ib nx 0 rw) := by
  have e1 : f_Pro_performs w g sp nx lt ex en iw 31 id ia ib 316 is iu = (1, w, (f_Sta_keepResult ia ((g (ix (id &&& 31))) ^^^ (g (ix (ib &&& 31)))) (f_Ins_has 1 iw) g sp).1, (f_Sta_keepResult ia ((g (ix (id &&& 31))) ^^^ (g (ix (ib &&& 31)))) (f_Ins_has 1 iw) g sp).2, nx, lt, ex, en) := rfl
  have e2 : f_Ref_extended 316 g sp w lt rr re iw id ia ib nx 0 rw = ((f_Ref_result ia ((g (ix id)) ^^^ (g (ix ib))) g sp iw).1, (f_Ref_result ia ((g (ix id)) ^^^ (g (ix ib))) g sp iw).2, w, lt, rr, re, nx, 0, rw) := rfl
  rw [e1, e2, res_eq ha, and31 hd, and31 hb]
  exact ⟨rfl, rfl, rfl, rfl, rfl, rfl, Or.inl ⟨rfl, rfl⟩⟩
theorem opx60 (hd : vp_in id 32) (ha : vp_in ia 32) (hb : vp_in ib 32) : IRl ex (f_Pro_performs w g sp nx lt ex en iw 31 id ia ib 60 is iu) (f_Ref_extended 60 g sp w lt rr re iw id ia ib nx 0 rw) := by
  have e1 : f_Pro_performs w g sp nx lt ex en iw 31 id ia ib 60 is iu = (1, w, (f_Sta_keepResult ia ((g (ix (id &&& 31))) &&& ((g (ix (ib &&& 31))) ^^^ -1)) (f_Ins_has 1 iw) g sp).1, (f_Sta_keepResult ia ((g (ix (id &&& 31))) &&& ((g (ix (ib &&& 31))) ^^^ -1)) (f_Ins_has 1 iw) g sp).2, nx, lt, ex, en) := rfl
  have e2 : f_Ref_extended 60 g sp w lt rr re iw id ia ib nx 0 rw = ((f_Ref_result ia ((g (ix id)) &&& ((g (ix ib)) ^^^ -1)) g sp iw).1, (f_Ref_result ia ((g (ix id)) &&& ((g (ix ib)) ^^^ -1)) g sp iw).2, w, lt, rr, re, nx, 0, rw) := rfl
  rw [e1, e2, res_eq ha, and31 hd, and31 hb]
  exact ⟨rfl, rfl, rfl, rfl, rfl, rfl, Or.inl ⟨rfl, rfl⟩⟩
theorem opx124 (hd : vp_in id 32) (ha : vp_in ia 32) (hb : vp_in ib 32) : IRl ex (f_Pro_performs w g sp nx lt ex en iw 31 id ia ib 124 is iu) (f_Ref_extended 124 g sp w lt rr re iw id ia ib nx 0 rw) := by
  have e1 : f_Pro_performs w g sp nx lt ex en iw 31 id ia ib 124 is iu = (1, w, (f_Sta_keepResult ia (((g (ix (id &&& 31))) ||| (g (ix (ib &&& 31)))) ^^^ -1) (f_Ins_has 1 iw) g sp).1, (f_Sta_keepResult ia (((g (ix (id &&& 31))) ||| (g (ix (ib &&& 31)))) ^^^ -1) (f_Ins_has 1 iw) g sp).2, nx, lt, ex, en) := rfl
  have e2 : f_Ref_extended 124 g sp w lt rr re iw id ia ib nx 0 rw = ((f_Ref_result ia (((g (ix id)) ||| (g (ix ib))) ^^^ -1) g sp iw).1, (f_Ref_result ia (((g (ix id)) ||| (g (ix ib))) ^^^ -1) g sp iw).2, w, lt, rr, re, nx, 0, rw) := rfl
  rw [e1, e2, res_eq ha, and31 hd, and31 hb]
  exact ⟨rfl, rfl, rfl, rfl, rfl, rfl, Or.inl ⟨rfl, rfl⟩⟩
theorem opx476 (hd : vp_in id 32) (ha : vp_in ia 32) (hb : vp_in ib 32) : IRl ex (f_Pro_performs w g sp nx lt ex en iw 31 id ia ib 476 is iu) (f_Ref_extended 476 g sp w lt rr re iw id ia ib nx 0 rw) := by
  have e1 : f_Pro_performs w g sp nx lt ex en iw 31 id ia ib 476 is iu = (1, w, (f_Sta_keepResult ia (((g (ix (id &&& 31))) &&& (g (ix (ib &&& 31)))) ^^^ -1) (f_Ins_has 1 iw) g sp).1, (f_Sta_keepResult ia (((g (ix (id &&& 31))) &&& (g (ix (ib &&& 31)))) ^^^ -1) (f_Ins_has 1 iw) g sp).2, nx, lt, ex, en) := rfl
  have e2 : f_Ref_extended 476 g sp w lt rr re iw id ia ib nx 0 rw = ((f_Ref_result ia (((g (ix id)) &&& (g (ix ib))) ^^^ -1) g sp iw).1, (f_Ref_result ia (((g (ix id)) &&& (g (ix ib))) ^^^ -1) g sp iw).2, w, lt, rr, re, nx, 0, rw) := rfl
  rw [e1, e2, res_eq ha, and31 hd, and31 hb]
  exact ⟨rfl, rfl, rfl, rfl, rfl, rfl, Or.inl ⟨rfl, rfl⟩⟩
theorem opx26 (hd : vp_in id 32) (ha : vp_in ia 32) (hb : vp_in ib 32) : IRl ex (f_Pro_performs w g sp nx lt ex en iw 31 id ia ib 26 is iu) (f_Ref_extended 26 g sp w lt rr re iw id ia ib nx 0 rw) := by
  have e1 : f_Pro_performs w g sp nx lt ex en iw 31 id ia ib 26 is iu = (1, w, (f_Sta_keepResult ia (f_Int_numberOfLeadingZeros (g (ix (id &&& 31)))) (f_Ins_has 1 iw) g sp).1, (f_Sta_keepResult ia (f_Int_numberOfLeadingZeros (g (ix (id &&& 31)))) (f_Ins_has 1 iw) g sp).2, nx, lt, ex, en) := rfl
  have e2 : f_Ref_extended 26 g sp w lt rr re iw id ia ib nx 0 rw = ((f_Ref_result ia (f_Ref_zeros (g (ix id))) g sp iw).1, (f_Ref_result ia (f_Ref_zeros (g (ix id))) g sp iw).2, w, lt, rr, re, nx, 0, rw) := rfl
  rw [e1, e2, res_eq ha, and31 hd, zeros_eq]
  exact ⟨rfl, rfl, rfl, rfl, rfl, rfl, Or.inl ⟨rfl, rfl⟩⟩
theorem opx922 (hd : vp_in id 32) (ha : vp_in ia 32) (hb : vp_in ib 32) : IRl ex (f_Pro_performs w g sp nx lt ex en iw 31 id ia ib 922 is iu) (f_Ref_extended 922 g sp w lt rr re iw id ia ib nx 0 rw) := by
  have e1 : f_Pro_performs w g sp nx lt ex en iw 31 id ia ib 922 is iu = (1, w, (f_Sta_keepResult ia ((g (ix (id &&& 31))).toInt16.toInt32) (f_Ins_has 1 iw) g sp).1, (f_Sta_keepResult ia ((g (ix (id &&& 31))).toInt16.toInt32) (f_Ins_has 1 iw) g sp).2, nx, lt, ex, en) := rfl
  have e2 : f_Ref_extended 922 g sp w lt rr re iw id ia ib nx 0 rw = ((f_Ref_result ia (shr (shl (g (ix id)) 16) 16) g sp iw).1, (f_Ref_result ia (shr (shl (g (ix id)) 16) 16) g sp iw).2, w, lt, rr, re, nx, 0, rw) := rfl
  rw [e1, e2, res_eq ha, and31 hd, sx16]
  exact ⟨rfl, rfl, rfl, rfl, rfl, rfl, Or.inl ⟨rfl, rfl⟩⟩
theorem opx954 (hd : vp_in id 32) (ha : vp_in ia 32) (hb : vp_in ib 32) : IRl ex (f_Pro_performs w g sp nx lt ex en iw 31 id ia ib 954 is iu) (f_Ref_extended 954 g sp w lt rr re iw id ia ib nx 0 rw) := by
  have e1 : f_Pro_performs w g sp nx lt ex en iw 31 id ia ib 954 is iu = (1, w, (f_Sta_keepResult ia ((g (ix (id &&& 31))).toInt8.toInt32) (f_Ins_has 1 iw) g sp).1, (f_Sta_keepResult ia ((g (ix (id &&& 31))).toInt8.toInt32) (f_Ins_has 1 iw) g sp).2, nx, lt, ex, en) := rfl
  have e2 : f_Ref_extended 954 g sp w lt rr re iw id ia ib nx 0 rw = ((f_Ref_result ia (shr (shl (g (ix id)) 24) 24) g sp iw).1, (f_Ref_result ia (shr (shl (g (ix id)) 24) 24) g sp iw).2, w, lt, rr, re, nx, 0, rw) := rfl
  rw [e1, e2, res_eq ha, and31 hd, sx8]
  exact ⟨rfl, rfl, rfl, rfl, rfl, rfl, Or.inl ⟨rfl, rfl⟩⟩
theorem opx0 (hd : vp_in id 32) (ha : vp_in ia 32) (hb : vp_in ib 32) : IRl ex (f_Pro_performs w g sp nx lt ex en iw 31 id ia ib 0 is iu) (f_Ref_extended 0 g sp w lt rr re iw id ia ib nx 0 rw) := by
  have e1 : f_Pro_performs w g sp nx lt ex en iw 31 id ia ib 0 is iu = (1, w, g, f_Sta_keepOrder (shr id 2) (f_Int_compare (g (ix (ia &&& 31))) (g (ix (ib &&& 31)))) sp, nx, lt, ex, en) := rfl
  have e2 : f_Ref_extended 0 g sp w lt rr re iw id ia ib nx 0 rw = (g, f_Ref_compare (shr id 2) (g (ix ia)).toInt64 (g (ix ib)).toInt64 sp, w, lt, rr, re, nx, 0, rw) := rfl
  rw [e1, e2, and31 ha, and31 hb, ord_eq, cmp_int]
  exact ⟨rfl, rfl, rfl, rfl, rfl, rfl, Or.inl ⟨rfl, rfl⟩⟩
theorem opx32 (hd : vp_in id 32) (ha : vp_in ia 32) (hb : vp_in ib 32) : IRl ex (f_Pro_performs w g sp nx lt ex en iw 31 id ia ib 32 is iu) (f_Ref_extended 32 g sp w lt rr re iw id ia ib nx 0 rw) := by
  have e1 : f_Pro_performs w g sp nx lt ex en iw 31 id ia ib 32 is iu = (1, w, g, f_Sta_keepOrder (shr id 2) (f_Int_compareUnsigned (g (ix (ia &&& 31))) (g (ix (ib &&& 31)))) sp, nx, lt, ex, en) := rfl
  have e2 : f_Ref_extended 32 g sp w lt rr re iw id ia ib nx 0 rw = (g, f_Ref_compare (shr id 2) (f_Ref_unsigned (g (ix ia))) (f_Ref_unsigned (g (ix ib))) sp, w, lt, rr, re, nx, 0, rw) := rfl
  rw [e1, e2, and31 ha, and31 hb, ord_eq, cmpU]
  exact ⟨rfl, rfl, rfl, rfl, rfl, rfl, Or.inl ⟨rfl, rfl⟩⟩
theorem opx4 (hd : vp_in id 32) (ha : vp_in ia 32) (hb : vp_in ib 32) : IRl ex (f_Pro_performs w g sp nx lt ex en iw 31 id ia ib 4 is iu) (f_Ref_extended 4 g sp w lt rr re iw id ia ib nx 0 rw) := by
  have e1 : f_Pro_performs w g sp nx lt ex en iw 31 id ia ib 4 is iu = (1, w, g, (f_Cmp_trap id (g (ix (ia &&& 31))) (g (ix (ib &&& 31))) sp nx lt ex).1, (f_Cmp_trap id (g (ix (ia &&& 31))) (g (ix (ib &&& 31))) sp nx lt ex).2.1, (f_Cmp_trap id (g (ix (ia &&& 31))) (g (ix (ib &&& 31))) sp nx lt ex).2.2.1, (f_Cmp_trap id (g (ix (ia &&& 31))) (g (ix (ib &&& 31))) sp nx lt ex).2.2.2, en) := rfl
  have e2 : f_Ref_extended 4 g sp w lt rr re iw id ia ib nx 0 rw = (g, (f_Ref_trap (g (ix ib)) g sp lt id ia nx 0).1, w, (f_Ref_trap (g (ix ib)) g sp lt id ia nx 0).2.1, rr, re, (f_Ref_trap (g (ix ib)) g sp lt id ia nx 0).2.2.1, (f_Ref_trap (g (ix ib)) g sp lt id ia nx 0).2.2.2, rw) := rfl
  rw [e1, e2, and31 ha, and31 hb]
  rcases trap_XR (g (ix ib)) g sp lt id ia nx 0 nx lt ex with ⟨a, b⟩ | ⟨n, c, a, b⟩
  · rw [a, b]; exact ⟨rfl, rfl, rfl, rfl, rfl, rfl, Or.inl ⟨rfl, rfl⟩⟩
  · rw [a, b]; exact ⟨rfl, rfl, rfl, rfl, rfl, rfl, Or.inr ⟨rfl, rfl⟩⟩
theorem opx598 (hd : vp_in id 32) (ha : vp_in ia 32) (hb : vp_in ib 32) : IRl ex (f_Pro_performs w g sp nx lt ex en iw 31 id ia ib 598 is iu) (f_Ref_extended 598 g sp w lt rr re iw id ia ib nx 0 rw) := by
  have e1 : f_Pro_performs w g sp nx lt ex en iw 31 id ia ib 598 is iu = (1, w, g, sp, nx, lt, ex, en) := rfl
  have e2 : f_Ref_extended 598 g sp w lt rr re iw id ia ib nx 0 rw = (g, sp, w, lt, rr, re, nx, 0, rw) := rfl
  rw [e1, e2]
  exact ⟨rfl, rfl, rfl, rfl, rfl, rfl, Or.inl ⟨rfl, rfl⟩⟩
theorem opx19 (hd : vp_in id 32) (ha : vp_in ia 32) (hb : vp_in ib 32) : IRl ex (f_Pro_performs w g sp nx lt ex en iw 31 id ia ib 19 is iu) (f_Ref_extended 19 g sp w lt rr re iw id ia ib nx 0 rw) := by
  have e1 : f_Pro_performs w g sp nx lt ex en iw 31 id ia ib 19 is iu = (1, w, upd g (ix (id &&& 31)) (sp 2), sp, nx, lt, ex, en) := rfl
  have e2 : f_Ref_extended 19 g sp w lt rr re iw id ia ib nx 0 rw = (upd g (ix id) (sp 2), sp, w, lt, rr, re, nx, 0, rw) := rfl
  rw [e1, e2, and31 hd]
  exact ⟨rfl, rfl, rfl, rfl, rfl, rfl, Or.inl ⟨rfl, rfl⟩⟩
end OPX
