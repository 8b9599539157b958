theorem lowm : ∀ k, k < 32 → ∀ i, i < 32 → bt (shl 1 (nI k) - 1) i = decide (i < k) := by decide +kernel
theorem low_shift (v : Int32) (k : Nat) (hk : k < 32) : (v &&& (shl 1 (nI k) - 1)) = 0 ↔ shl (shr v (nI k)) (nI k) = v := by
  constructor
  · intro h
    apply b_ext
    intro i hi
    rw [bshl k hk _ hi]
    by_cases c : k ≤ i
    · rw [bshr k hk v (by omega), if_pos (by omega), show k + (i - k) = i from by omega]
      simp [c]
    · have h1 : bt (v &&& (shl 1 (nI k) - 1)) i = false := by rw [h]; exact b_0 i
      rw [b_and, lowm k hk i hi, decide_eq_true (by omega)] at h1
      have h2 : bt v i = false := by simpa using h1
      simp [c, h2]
  · intro h
    apply b_ext
    intro i hi
    rw [b_and, lowm k hk i hi, b_0]
    by_cases c : i < k
    · have h2 : bt v i = false := by
        rw [← h, bshl k hk _ hi, decide_eq_false (by omega)]
        rfl
      simp [h2]
    · simp [c]
theorem le31 : ∀ k, k < 64 → (nI k ≤ 31 ↔ k < 32) := by decide +kernel
theorem sshift_eq (v n : Int32) (h : ∃ k, k < 64 ∧ n = nI k) (rs : Nat → Int32) : f_Log_signedShift v n rs = ((if n ≤ 31 then shr v n else shr v 31), f_Ref_carry (if 0 ≤ v then 0 else (if (if n ≤ 31 then shl (if n ≤ 31 then shr v n else shr v 31) n else 0) = v then 0 else 1)) rs) := by
  obtain ⟨k, hk, rfl⟩ := h
  unfold f_Log_signedShift f_Sta_keepCarry f_Ref_carry
  by_cases c : nI k ≤ 31
  · simp only [if_pos c]
    have hk2 := (le31 k hk).mp c
    have e : (if (v &&& (shl 1 (nI k) - 1)) = 0 then (0 : Int32) else 1) = (if shl (shr v (nI k)) (nI k) = v then 0 else 1) := by
      by_cases q : (v &&& (shl 1 (nI k) - 1)) = 0
      · rw [if_pos q, if_pos ((low_shift v k hk2).mp q)]
      · rw [if_neg q, if_neg (fun z => q ((low_shift v k hk2).mpr z))]
    rw [e]
  · simp only [if_neg c]
    have e : (if v = 0 then (0 : Int32) else 1) = (if 0 = v then 0 else 1) := by
      by_cases q : v = 0
      · rw [if_pos q, if_pos q.symm]
      · rw [if_neg q, if_neg (fun z => q z.symm)]
    rw [e]
section OPX2
variable (w g sp : Nat → Int32) (nx lt ex en iw id ia ib is iu rr re rw : Int32)
theorem opx24 (hd : vp_in id 32) (ha : vp_in ia 32) (hb : vp_in ib 32) : IRl ex (f_Pro_performs w g sp nx lt ex en iw 31 id ia ib 24 is iu) (f_Ref_extended 24 g sp w lt rr re iw id ia ib nx 0 rw) := by
  have e1 : f_Pro_performs w g sp nx lt ex en iw 31 id ia ib 24 is iu = (1, w, (f_Sta_keepResult ia (if ((g (ix (ib &&& 31))) &&& 63) ≤ 31 then shl (g (ix (id &&& 31))) ((g (ix (ib &&& 31))) &&& 63) else 0) (f_Ins_has 1 iw) g sp).1, (f_Sta_keepResult ia (if ((g (ix (ib &&& 31))) &&& 63) ≤ 31 then shl (g (ix (id &&& 31))) ((g (ix (ib &&& 31))) &&& 63) else 0) (f_Ins_has 1 iw) g sp).2, nx, lt, ex, en) := rfl
  have e2 : f_Ref_extended 24 g sp w lt rr re iw id ia ib nx 0 rw = ((f_Ref_result ia (if ((g (ix ib)) &&& 63) ≤ 31 then shl (g (ix id)) ((g (ix ib)) &&& 63) else 0) g sp iw).1, (f_Ref_result ia (if ((g (ix ib)) &&& 63) ≤ 31 then shl (g (ix id)) ((g (ix ib)) &&& 63) else 0) g sp iw).2, w, lt, rr, re, nx, 0, rw) := rfl
  rw [e1, e2, res_eq ha, and31 hd, and31 hb]
  exact ⟨rfl, rfl, rfl, rfl, rfl, rfl, Or.inl ⟨rfl, rfl⟩⟩
theorem opx536 (hd : vp_in id 32) (ha : vp_in ia 32) (hb : vp_in ib 32) : IRl ex (f_Pro_performs w g sp nx lt ex en iw 31 id ia ib 536 is iu) (f_Ref_extended 536 g sp w lt rr re iw id ia ib nx 0 rw) := by
  have e1 : f_Pro_performs w g sp nx lt ex en iw 31 id ia ib 536 is iu = (1, w, (f_Sta_keepResult ia (if ((g (ix (ib &&& 31))) &&& 63) ≤ 31 then ush (g (ix (id &&& 31))) ((g (ix (ib &&& 31))) &&& 63) else 0) (f_Ins_has 1 iw) g sp).1, (f_Sta_keepResult ia (if ((g (ix (ib &&& 31))) &&& 63) ≤ 31 then ush (g (ix (id &&& 31))) ((g (ix (ib &&& 31))) &&& 63) else 0) (f_Ins_has 1 iw) g sp).2, nx, lt, ex, en) := rfl
  have e2 : f_Ref_extended 536 g sp w lt rr re iw id ia ib nx 0 rw = ((f_Ref_result ia (if ((g (ix ib)) &&& 63) ≤ 31 then ush (g (ix id)) ((g (ix ib)) &&& 63) else 0) g sp iw).1, (f_Ref_result ia (if ((g (ix ib)) &&& 63) ≤ 31 then ush (g (ix id)) ((g (ix ib)) &&& 63) else 0) g sp iw).2, w, lt, rr, re, nx, 0, rw) := rfl
  rw [e1, e2, res_eq ha, and31 hd, and31 hb]
  exact ⟨rfl, rfl, rfl, rfl, rfl, rfl, Or.inl ⟨rfl, rfl⟩⟩
theorem opx792 (hd : vp_in id 32) (ha : vp_in ia 32) (hb : vp_in ib 32) : IRl ex (f_Pro_performs w g sp nx lt ex en iw 31 id ia ib 792 is iu) (f_Ref_extended 792 g sp w lt rr re iw id ia ib nx 0 rw) := by
  have e1 : f_Pro_performs w g sp nx lt ex en iw 31 id ia ib 792 is iu = (1, w, (f_Sta_keepResult ia (f_Log_signedShift (g (ix (id &&& 31))) ((g (ix (ib &&& 31))) &&& 63) sp).1 (f_Ins_has 1 iw) g (f_Log_signedShift (g (ix (id &&& 31))) ((g (ix (ib &&& 31))) &&& 63) sp).2).1, (f_Sta_keepResult ia (f_Log_signedShift (g (ix (id &&& 31))) ((g (ix (ib &&& 31))) &&& 63) sp).1 (f_Ins_has 1 iw) g (f_Log_signedShift (g (ix (id &&& 31))) ((g (ix (ib &&& 31))) &&& 63) sp).2).2, nx, lt, ex, en) := rfl
  have e2 : f_Ref_extended 792 g sp w lt rr re iw id ia ib nx 0 rw = ((f_Ref_result ia (if ((g (ix ib)) &&& 63) ≤ 31 then shr (g (ix id)) ((g (ix ib)) &&& 63) else shr (g (ix id)) 31) g (f_Ref_carry (if 0 ≤ (g (ix id)) then 0 else (if (if ((g (ix ib)) &&& 63) ≤ 31 then shl (if ((g (ix ib)) &&& 63) ≤ 31 then shr (g (ix id)) ((g (ix ib)) &&& 63) else shr (g (ix id)) 31) ((g (ix ib)) &&& 63) else 0) = (g (ix id)) then 0 else 1)) sp) iw).1, (f_Ref_result ia (if ((g (ix ib)) &&& 63) ≤ 31 then shr (g (ix id)) ((g (ix ib)) &&& 63) else shr (g (ix id)) 31) g (f_Ref_carry (if 0 ≤ (g (ix id)) then 0 else (if (if ((g (ix ib)) &&& 63) ≤ 31 then shl (if ((g (ix ib)) &&& 63) ≤ 31 then shr (g (ix id)) ((g (ix ib)) &&& 63) else shr (g (ix id)) 31) ((g (ix ib)) &&& 63) else 0) = (g (ix id)) then 0 else 1)) sp) iw).2, w, lt, rr, re, nx, 0, rw) := rfl
  rw [e1, e2, res_eq ha, and31 hd, and31 hb, sshift_eq _ _ (pk_andE _ (m := 63) 6 (by decide))]
  exact ⟨rfl, rfl, rfl, rfl, rfl, rfl, Or.inl ⟨rfl, rfl⟩⟩
theorem opx824 (hd : vp_in id 32) (ha : vp_in ia 32) (hb : vp_in ib 32) : IRl ex (f_Pro_performs w g sp nx lt ex en iw 31 id ia ib 824 is iu) (f_Ref_extended 824 g sp w lt rr re iw id ia ib nx 0 rw) := by
  have e1 : f_Pro_performs w g sp nx lt ex en iw 31 id ia ib 824 is iu = (1, w, (f_Sta_keepResult ia (f_Log_signedShift (g (ix (id &&& 31))) ib sp).1 (f_Ins_has 1 iw) g (f_Log_signedShift (g (ix (id &&& 31))) ib sp).2).1, (f_Sta_keepResult ia (f_Log_signedShift (g (ix (id &&& 31))) ib sp).1 (f_Ins_has 1 iw) g (f_Log_signedShift (g (ix (id &&& 31))) ib sp).2).2, nx, lt, ex, en) := rfl
  have e2 : f_Ref_extended 824 g sp w lt rr re iw id ia ib nx 0 rw = ((f_Ref_result ia (if ib ≤ 31 then shr (g (ix id)) ib else shr (g (ix id)) 31) g (f_Ref_carry (if 0 ≤ (g (ix id)) then 0 else (if (if ib ≤ 31 then shl (if ib ≤ 31 then shr (g (ix id)) ib else shr (g (ix id)) 31) ib else 0) = (g (ix id)) then 0 else 1)) sp) iw).1, (f_Ref_result ia (if ib ≤ 31 then shr (g (ix id)) ib else shr (g (ix id)) 31) g (f_Ref_carry (if 0 ≤ (g (ix id)) then 0 else (if (if ib ≤ 31 then shl (if ib ≤ 31 then shr (g (ix id)) ib else shr (g (ix id)) 31) ib else 0) = (g (ix id)) then 0 else 1)) sp) iw).2, w, lt, rr, re, nx, 0, rw) := rfl
  rw [e1, e2, res_eq ha, and31 hd, sshift_eq _ _ (let ⟨k, h, e⟩ := vp_in_of hb (by decide); ⟨k, by omega, e⟩)]
  exact ⟨rfl, rfl, rfl, rfl, rfl, rfl, Or.inl ⟨rfl, rfl⟩⟩
theorem opx491 (hd : vp_in id 32) (ha : vp_in ia 32) (hb : vp_in ib 32) : IRl ex (f_Pro_performs w g sp nx lt ex en iw 31 id ia ib 491 is iu) (f_Ref_extended 491 g sp w lt rr re iw id ia ib nx 0 rw) := by
  have e1 : f_Pro_performs w g sp nx lt ex en iw 31 id ia ib 491 is iu = (1, w, (f_Sta_keepResult id (f_Ari_quotient (g (ix (ia &&& 31))) (g (ix (ib &&& 31)))) (f_Ins_has 1 iw) g sp).1, (f_Sta_keepResult id (f_Ari_quotient (g (ix (ia &&& 31))) (g (ix (ib &&& 31)))) (f_Ins_has 1 iw) g sp).2, nx, lt, ex, en) := rfl
  have e2 : f_Ref_products 491 g sp iw id ia ib = (1, f_Ref_result id (f_Ari_quotient (g (ix ia)) (g (ix ib))) g sp iw) := by
    unfold f_Ref_products f_Ari_quotient
    rw [if_neg (show ¬ (491 : Int32) = 235 from by decide), if_neg (show ¬ (491 : Int32) = 75 from by decide), if_neg (show ¬ (491 : Int32) = 11 from by decide), if_pos (show (491 : Int32) = 491 from rfl)]
    by_cases h0 : (g (ix ib)) = 0
    · rw [if_pos h0, if_pos h0]
    rw [if_neg h0, if_neg h0]
    by_cases h1 : (g (ix ia)) = -2147483648
    · rw [if_pos h1, if_pos h1]
      by_cases h2 : (g (ix ib)) = -1
      · rw [if_pos h2, if_pos h2]
      · rw [if_neg h2, if_neg h2]
    · rw [if_neg h1, if_neg h1]
  have e3 : f_Ref_extended 491 g sp w lt rr re iw id ia ib nx 0 rw = (let t := f_Ref_products 491 g sp iw id ia ib; if t.1 = 0 then (g, sp, w, lt, rr, re, nx, 0, rw) else (t.2.1, t.2.2, w, lt, rr, re, nx, 0, rw)) := by
    rw [e2]
    unfold f_Ref_extended
    have l1 : f_Ref_logic 491 g sp iw id ia ib = (0, g, sp) := rfl
    have l2 : f_Ref_shifts 491 g sp iw id ia ib = (0, g, sp) := rfl
    have l3 : f_Ref_arithmetic 491 g sp iw id ia ib = (0, g, sp) := rfl
    simp only [if_neg (show ¬ (491 : Int32) = 0 from by decide), if_neg (show ¬ (491 : Int32) = 32 from by decide), if_neg (show ¬ (491 : Int32) = 4 from by decide), if_neg (show ¬ (491 : Int32) = 23 from by decide), if_neg (show ¬ (491 : Int32) = 87 from by decide), if_neg (show ¬ (491 : Int32) = 151 from by decide), if_neg (show ¬ (491 : Int32) = 215 from by decide), l1, l2, l3, e2, if_true, if_neg (show ¬ (1 : Int32) = 0 from by decide)]
  rw [e1, e3, e2, res_eq hd, and31 ha, and31 hb]
  exact ⟨rfl, rfl, rfl, rfl, rfl, rfl, Or.inl ⟨rfl, rfl⟩⟩
theorem opx459 (hd : vp_in id 32) (ha : vp_in ia 32) (hb : vp_in ib 32) : IRl ex (f_Pro_performs w g sp nx lt ex en iw 31 id ia ib 459 is iu) (f_Ref_extended 459 g sp w lt rr re iw id ia ib nx 0 rw) := by
  have a2 : f_Ari_runsExtended g sp iw id ia ib 459 = (if (g (ix (ib &&& 31))) = 0 then (1, (f_Sta_keepResult id 0 (f_Ins_has 1 iw) g sp).1, (f_Sta_keepResult id 0 (f_Ins_has 1 iw) g sp).2) else (1, (f_Sta_keepResult id ((((g (ix (ia &&& 31))).toInt64 &&& 4294967295) / ((g (ix (ib &&& 31))).toInt64 &&& 4294967295)).toInt32) (f_Ins_has 1 iw) g sp).1, (f_Sta_keepResult id ((((g (ix (ia &&& 31))).toInt64 &&& 4294967295) / ((g (ix (ib &&& 31))).toInt64 &&& 4294967295)).toInt32) (f_Ins_has 1 iw) g sp).2)) := rfl
  have b2 : f_Ref_products 459 g sp iw id ia ib = (if (g (ix ib)) = 0 then (1, (f_Ref_result id 0 g sp iw).1, (f_Ref_result id 0 g sp iw).2) else (1, (f_Ref_result id ((((g (ix ia)).toInt64 &&& 4294967295) / ((g (ix ib)).toInt64 &&& 4294967295)).toInt32) g sp iw).1, (f_Ref_result id ((((g (ix ia)).toInt64 &&& 4294967295) / ((g (ix ib)).toInt64 &&& 4294967295)).toInt32) g sp iw).2)) := rfl
  have l1 : f_Ref_logic 459 g sp iw id ia ib = (0, g, sp) := rfl
  have l2 : f_Ref_shifts 459 g sp iw id ia ib = (0, g, sp) := rfl
  have l3 : f_Ref_arithmetic 459 g sp iw id ia ib = (0, g, sp) := rfl
  have l4 : f_Cmp_runsExtended g sp nx lt ex id ia ib 459 = (0, sp, nx, lt, ex) := rfl
  rw [and31 ha, and31 hb] at a2
  unfold f_Pro_performs f_Ref_extended
  simp only [if_neg (show ¬ ((31 : Int32) = 3 ∨ (31 : Int32) = 10 ∨ (31 : Int32) = 11) from by decide), if_neg (show ¬ ((31 : Int32) = 7 ∨ (31 : Int32) = 8 ∨ (31 : Int32) = 12 ∨ (31 : Int32) = 13 ∨ (31 : Int32) = 14 ∨ (31 : Int32) = 15) from by decide), if_neg (show ¬ ((31 : Int32) = 16 ∨ (31 : Int32) = 17 ∨ (31 : Int32) = 18) from by decide), if_neg (show ¬ (31 : Int32) = 19 from by decide), if_neg (show ¬ ((31 : Int32) = 20 ∨ (31 : Int32) = 21 ∨ (31 : Int32) = 23) from by decide), if_neg (show ¬ ((31 : Int32) = 24 ∨ (31 : Int32) = 25 ∨ (31 : Int32) = 26 ∨ (31 : Int32) = 27 ∨ (31 : Int32) = 28 ∨ (31 : Int32) = 29) from by decide), if_neg (show ¬ (459 : Int32) = 0 from by decide), if_neg (show ¬ (459 : Int32) = 32 from by decide), if_neg (show ¬ (459 : Int32) = 4 from by decide), if_neg (show ¬ (459 : Int32) = 23 from by decide), if_neg (show ¬ (459 : Int32) = 87 from by decide), if_neg (show ¬ (459 : Int32) = 151 from by decide), if_neg (show ¬ (459 : Int32) = 215 from by decide), l1, l2, l3, l4, if_true, a2, b2, res_eq hd]
  by_cases h0 : (g (ix ib)) = 0
  · simp only [if_pos h0, if_neg (show ¬ (1 : Int32) = 0 from by decide)]
    exact ⟨rfl, rfl, rfl, rfl, rfl, rfl, Or.inl ⟨rfl, rfl⟩⟩
  · simp only [if_neg h0, if_neg (show ¬ (1 : Int32) = 0 from by decide)]
    exact ⟨rfl, rfl, rfl, rfl, rfl, rfl, Or.inl ⟨rfl, rfl⟩⟩
end OPX2
theorem n10 : ¬ (1 : Int32) = 0 := by decide
/-- the class, when the instruction is one of control -/
theorem perf_ctl (w g sp : Nat → Int32) (nx lt ex en iw id ia ib is iu X : Int32) (C : Int32 × (Nat → Int32) × (Nat → Int32) × Int32 × Int32 × Int32)
    (h1 : f_Cmp_runsExtended g sp nx lt ex id ia ib X = (0, sp, nx, lt, ex)) (h2 : f_Ari_runsExtended g sp iw id ia ib X = (0, g, sp)) (h3 : f_Log_runsExtended g sp iw id ia ib X = (0, g, sp)) (h4 : f_Log_runsShift g sp iw id ia ib X = (0, g, sp)) (hc : f_Ctl_runs g sp nx lt ex iw id ia ib X = C) (c1 : C.1 = 1) :
    f_Pro_performs w g sp nx lt ex en iw 31 id ia ib X is iu = (1, w, C.2.1, C.2.2.1, C.2.2.2.1, C.2.2.2.2.1, C.2.2.2.2.2, en) := by
  have c0 : ¬ C.1 = 0 := by rw [c1]; decide
  unfold f_Pro_performs
  rw [if_neg (show ¬ ((31 : Int32) = 3 ∨ (31 : Int32) = 10 ∨ (31 : Int32) = 11) from by decide), if_neg (show ¬ ((31 : Int32) = 7 ∨ (31 : Int32) = 8 ∨ (31 : Int32) = 12 ∨ (31 : Int32) = 13 ∨ (31 : Int32) = 14 ∨ (31 : Int32) = 15) from by decide), if_neg (show ¬ ((31 : Int32) = 16 ∨ (31 : Int32) = 17 ∨ (31 : Int32) = 18) from by decide), if_neg (show ¬ (31 : Int32) = 19 from by decide), if_neg (show ¬ ((31 : Int32) = 20 ∨ (31 : Int32) = 21 ∨ (31 : Int32) = 23) from by decide), if_neg (show ¬ ((31 : Int32) = 24 ∨ (31 : Int32) = 25 ∨ (31 : Int32) = 26 ∨ (31 : Int32) = 27 ∨ (31 : Int32) = 28 ∨ (31 : Int32) = 29) from by decide), if_pos rfl]
  simp only [h1, h2, h3, h4, hc, if_true, if_neg c0]
theorem perf_idx (w g sp : Nat → Int32) (nx lt ex en iw id ia ib is iu X : Int32)
    (h1 : f_Cmp_runsExtended g sp nx lt ex id ia ib X = (0, sp, nx, lt, ex)) (h2 : f_Ari_runsExtended g sp iw id ia ib X = (0, g, sp)) (h3 : f_Log_runsExtended g sp iw id ia ib X = (0, g, sp)) (h4 : f_Log_runsShift g sp iw id ia ib X = (0, g, sp)) (hc : f_Ctl_runs g sp nx lt ex iw id ia ib X = (0, g, sp, nx, lt, ex)) (hp : f_Acc_plainForm X = -1) :
    f_Pro_performs w g sp nx lt ex en iw 31 id ia ib X is iu = (0, w, g, sp, nx, lt, ex, en) := by
  have h5 : f_Acc_runsIndexed w g sp nx lt ex en id ia ib X = (0, w, g, sp, nx, lt, ex, en) := by
    unfold f_Acc_runsIndexed
    rw [if_pos hp]
  unfold f_Pro_performs
  rw [if_neg (show ¬ ((31 : Int32) = 3 ∨ (31 : Int32) = 10 ∨ (31 : Int32) = 11) from by decide), if_neg (show ¬ ((31 : Int32) = 7 ∨ (31 : Int32) = 8 ∨ (31 : Int32) = 12 ∨ (31 : Int32) = 13 ∨ (31 : Int32) = 14 ∨ (31 : Int32) = 15) from by decide), if_neg (show ¬ ((31 : Int32) = 16 ∨ (31 : Int32) = 17 ∨ (31 : Int32) = 18) from by decide), if_neg (show ¬ (31 : Int32) = 19 from by decide), if_neg (show ¬ ((31 : Int32) = 20 ∨ (31 : Int32) = 21 ∨ (31 : Int32) = 23) from by decide), if_neg (show ¬ ((31 : Int32) = 24 ∨ (31 : Int32) = 25 ∨ (31 : Int32) = 26 ∨ (31 : Int32) = 27 ∨ (31 : Int32) = 28 ∨ (31 : Int32) = 29) from by decide), if_pos rfl]
  simp only [h1, h2, h3, h4, hc, h5, if_true]
/-- the reference, when no kind before 'system' has it -/
theorem ext_sys (w g sp : Nat → Int32) (nx lt iw id ia ib rr re rw X : Int32) (C : Int32 × (Nat → Int32) × (Nat → Int32) × Int32 × Int32 × Int32)
    (x0 : ¬ X = 0) (x32 : ¬ X = 32) (x4 : ¬ X = 4) (x23 : ¬ X = 23) (x87 : ¬ X = 87) (x151 : ¬ X = 151) (x215 : ¬ X = 215)
    (h1 : f_Ref_logic X g sp iw id ia ib = (0, g, sp)) (h2 : f_Ref_shifts X g sp iw id ia ib = (0, g, sp)) (h3 : f_Ref_arithmetic X g sp iw id ia ib = (0, g, sp)) (h4 : f_Ref_products X g sp iw id ia ib = (0, g, sp)) (hc : f_Ref_system X g sp lt iw id ia nx 0 = C) (c1 : C.1 = 1) :
    f_Ref_extended X g sp w lt rr re iw id ia ib nx 0 rw = (C.2.1, C.2.2.1, w, C.2.2.2.1, rr, re, C.2.2.2.2.1, C.2.2.2.2.2, rw) := by
  have c0 : ¬ C.1 = 0 := by rw [c1]; decide
  unfold f_Ref_extended
  rw [if_neg x0, if_neg x32, if_neg x4, if_neg x23, if_neg x87, if_neg x151, if_neg x215]
  simp only [h1, h2, h3, h4, hc, if_true, if_neg c0]
theorem ext_spc (w g sp : Nat → Int32) (nx lt iw id ia ib rr re rw X : Int32) (C : Int32 × (Nat → Int32) × (Nat → Int32) × Int32 × Int32 × Int32)
    (x0 : ¬ X = 0) (x32 : ¬ X = 32) (x4 : ¬ X = 4) (x23 : ¬ X = 23) (x87 : ¬ X = 87) (x151 : ¬ X = 151) (x215 : ¬ X = 215)
    (h1 : f_Ref_logic X g sp iw id ia ib = (0, g, sp)) (h2 : f_Ref_shifts X g sp iw id ia ib = (0, g, sp)) (h3 : f_Ref_arithmetic X g sp iw id ia ib = (0, g, sp)) (h4 : f_Ref_products X g sp iw id ia ib = (0, g, sp)) (h5 : f_Ref_system X g sp lt iw id ia nx 0 = (0, g, sp, lt, nx, 0)) (hc : f_Ref_specials X g sp lt id ia ib nx 0 = C) (c1 : C.1 = 1) :
    f_Ref_extended X g sp w lt rr re iw id ia ib nx 0 rw = (C.2.1, C.2.2.1, w, C.2.2.2.1, rr, re, C.2.2.2.2.1, C.2.2.2.2.2, rw) := by
  have c0 : ¬ C.1 = 0 := by rw [c1]; decide
  unfold f_Ref_extended
  rw [if_neg x0, if_neg x32, if_neg x4, if_neg x23, if_neg x87, if_neg x151, if_neg x215]
  simp only [h1, h2, h3, h4, h5, hc, if_true, if_neg c0]
theorem ext_non (w g sp : Nat → Int32) (nx lt iw id ia ib rr re rw X : Int32)
    (x0 : ¬ X = 0) (x32 : ¬ X = 32) (x4 : ¬ X = 4) (x23 : ¬ X = 23) (x87 : ¬ X = 87) (x151 : ¬ X = 151) (x215 : ¬ X = 215)
    (h1 : f_Ref_logic X g sp iw id ia ib = (0, g, sp)) (h2 : f_Ref_shifts X g sp iw id ia ib = (0, g, sp)) (h3 : f_Ref_arithmetic X g sp iw id ia ib = (0, g, sp)) (h4 : f_Ref_products X g sp iw id ia ib = (0, g, sp)) (h5 : f_Ref_system X g sp lt iw id ia nx 0 = (0, g, sp, lt, nx, 0)) (hc : f_Ref_specials X g sp lt id ia ib nx 0 = (0, g, sp, lt, nx, 0)) :
    f_Ref_extended X g sp w lt rr re iw id ia ib nx 0 rw = (g, (f_Ref_unlisted sp).1, w, (f_Ref_unlisted sp).2.1, rr, re, (f_Ref_unlisted sp).2.2.1, (f_Ref_unlisted sp).2.2.2, rw) := by
  unfold f_Ref_extended
  rw [if_neg x0, if_neg x32, if_neg x4, if_neg x23, if_neg x87, if_neg x151, if_neg x215]
  simp only [h1, h2, h3, h4, h5, hc, if_true]
theorem bar (sp : Nat → Int32) (nx lt ex : Int32) : (f_Sta_refusesPrivileged sp nx lt ex = (0, sp, nx, lt, ex) ∧ f_Ref_barred sp lt nx 0 = (0, sp, lt, nx, 0)) ∨ (f_Sta_refusesPrivileged sp nx lt ex = (1, (f_Sta_raise 1792 262144 sp ex).1, 1792, 1792, ex + 1) ∧ f_Ref_barred sp lt nx 0 = (1, (f_Sta_raise 1792 262144 sp ex).1, 1792, 1792, 1)) := by
  have eb := has_bit 14 (by omega) 16384 (by decide) sp
  have er : f_Ref_bit (sp 1) 14 = 0 ↔ bt (sp 1) 14 = false := rbit0 (sp 1) 14 (by omega)
  unfold f_Sta_refusesPrivileged f_Ref_barred
  by_cases p : bt (sp 1) 14 = false
  · left
    rw [if_pos (eb.mpr p), if_pos (er.mpr p)]
    exact ⟨rfl, rfl⟩
  · right
    rw [if_neg (fun z => p (eb.mp z)), if_neg (fun z => p (er.mp z))]
    exact ⟨rfl, rfl⟩
theorem spr (ia : Int32) : (32 + (ia &&& 15)) &&& 63 = 32 + (ia &&& 15) := by
  obtain ⟨k, hk, e⟩ := pk_andE ia (m := 15) 4 (by decide)
  rw [e, show (32 : Int32) = nI 32 from rfl, show nI 32 + nI k = nI (32 + k) from (Int32.ofNat_add 32 k).symm, pk_andN (by omega) 6 (by decide), Nat.mod_eq_of_lt (by omega)]
section OPX3
variable (w g sp : Nat → Int32) (nx lt ex en iw id ia ib is iu rr re rw : Int32)
theorem opx144 (hd : vp_in id 32) (ha : vp_in ia 32) (hb : vp_in ib 32) : IRl ex (f_Pro_performs w g sp nx lt ex en iw 31 id ia ib 144 is iu) (f_Ref_extended 144 g sp w lt rr re iw id ia ib nx 0 rw) := by
  have hs : f_Ref_system 144 g sp lt iw id ia nx 0 = (1, g, f_Ctl_keepFields g sp iw id, lt, nx, 0) := by
    unfold f_Ref_system
    rw [if_neg (by decide), if_pos rfl]
    exact fields_eq g sp lt iw id nx 0 hd
  have hc : f_Ctl_runs g sp nx lt ex iw id ia ib 144 = (1, g, f_Ctl_keepFields g sp iw id, nx, lt, ex) := rfl
  rw [perf_ctl w g sp nx lt ex en iw id ia ib is iu 144 _ rfl rfl rfl rfl hc rfl, ext_sys w g sp nx lt iw id ia ib rr re rw 144 _ (by decide) (by decide) (by decide) (by decide) (by decide) (by decide) (by decide) rfl rfl rfl rfl hs rfl]
  exact ⟨rfl, rfl, rfl, rfl, rfl, rfl, Or.inl ⟨rfl, rfl⟩⟩
theorem opx83 (hd : vp_in id 32) (ha : vp_in ia 32) (hb : vp_in ib 32) : IRl ex (f_Pro_performs w g sp nx lt ex en iw 31 id ia ib 83 is iu) (f_Ref_extended 83 g sp w lt rr re iw id ia ib nx 0 rw) := by
  rcases bar sp nx lt ex with ⟨b1, b2⟩ | ⟨b1, b2⟩
  · have hc : f_Ctl_runs g sp nx lt ex iw id ia ib 83 = (1, upd g (ix (id &&& 31)) (sp 1), sp, nx, lt, ex) := by
      unfold f_Ctl_runs
      rw [if_neg (show ¬ (83 : Int32) = 19 from by decide), if_pos (show (83 : Int32) = 83 ∨ (83 : Int32) = 146 ∨ (83 : Int32) = 210 ∨ (83 : Int32) = 595 from by decide), b1]
      rfl
    have hs : f_Ref_system 83 g sp lt iw id ia nx 0 = (1, upd g (ix id) (sp 1), sp, lt, nx, 0) := by
      unfold f_Ref_system
      rw [if_neg (show ¬ (83 : Int32) = 19 from by decide), if_neg (show ¬ (83 : Int32) = 144 from by decide), if_pos rfl, b2]
      rfl
    rw [perf_ctl w g sp nx lt ex en iw id ia ib is iu 83 _ rfl rfl rfl rfl hc rfl, ext_sys w g sp nx lt iw id ia ib rr re rw 83 _ (by decide) (by decide) (by decide) (by decide) (by decide) (by decide) (by decide) rfl rfl rfl rfl hs rfl, and31 hd]
    exact ⟨rfl, rfl, rfl, rfl, rfl, rfl, Or.inl ⟨rfl, rfl⟩⟩
  · have hc : f_Ctl_runs g sp nx lt ex iw id ia ib 83 = (1, g, (f_Sta_raise 1792 262144 sp ex).1, 1792, 1792, ex + 1) := by
      unfold f_Ctl_runs
      rw [if_neg (show ¬ (83 : Int32) = 19 from by decide), if_pos (show (83 : Int32) = 83 ∨ (83 : Int32) = 146 ∨ (83 : Int32) = 210 ∨ (83 : Int32) = 595 from by decide), b1]
      rfl
    have hs : f_Ref_system 83 g sp lt iw id ia nx 0 = (1, g, (f_Sta_raise 1792 262144 sp ex).1, 1792, 1792, 1) := by
      unfold f_Ref_system
      rw [if_neg (show ¬ (83 : Int32) = 19 from by decide), if_neg (show ¬ (83 : Int32) = 144 from by decide), if_pos rfl, b2]
      rfl
    rw [perf_ctl w g sp nx lt ex en iw id ia ib is iu 83 _ rfl rfl rfl rfl hc rfl, ext_sys w g sp nx lt iw id ia ib rr re rw 83 _ (by decide) (by decide) (by decide) (by decide) (by decide) (by decide) (by decide) rfl rfl rfl rfl hs rfl]
    exact ⟨rfl, rfl, rfl, rfl, rfl, rfl, Or.inr ⟨rfl, rfl⟩⟩
theorem opx146 (hd : vp_in id 32) (ha : vp_in ia 32) (hb : vp_in ib 32) : IRl ex (f_Pro_performs w g sp nx lt ex en iw 31 id ia ib 146 is iu) (f_Ref_extended 146 g sp w lt rr re iw id ia ib nx 0 rw) := by
  rcases bar sp nx lt ex with ⟨b1, b2⟩ | ⟨b1, b2⟩
  · have hc : f_Ctl_runs g sp nx lt ex iw id ia ib 146 = (1, g, upd sp 1 (g (ix (id &&& 31)) &&& 65535), nx, lt, ex) := by
      unfold f_Ctl_runs
      rw [if_neg (show ¬ (146 : Int32) = 19 from by decide), if_pos (show (146 : Int32) = 83 ∨ (146 : Int32) = 146 ∨ (146 : Int32) = 210 ∨ (146 : Int32) = 595 from by decide), b1]
      rfl
    have hs : f_Ref_system 146 g sp lt iw id ia nx 0 = (1, g, upd sp 1 (g (ix id) &&& 65535), lt, nx, 0) := by
      unfold f_Ref_system
      rw [if_neg (show ¬ (146 : Int32) = 19 from by decide), if_neg (show ¬ (146 : Int32) = 144 from by decide), if_neg (show ¬ (146 : Int32) = 83 from by decide), if_pos rfl, b2]
      rfl
    rw [perf_ctl w g sp nx lt ex en iw id ia ib is iu 146 _ rfl rfl rfl rfl hc rfl, ext_sys w g sp nx lt iw id ia ib rr re rw 146 _ (by decide) (by decide) (by decide) (by decide) (by decide) (by decide) (by decide) rfl rfl rfl rfl hs rfl, and31 hd]
    exact ⟨rfl, rfl, rfl, rfl, rfl, rfl, Or.inl ⟨rfl, rfl⟩⟩
  · have hc : f_Ctl_runs g sp nx lt ex iw id ia ib 146 = (1, g, (f_Sta_raise 1792 262144 sp ex).1, 1792, 1792, ex + 1) := by
      unfold f_Ctl_runs
      rw [if_neg (show ¬ (146 : Int32) = 19 from by decide), if_pos (show (146 : Int32) = 83 ∨ (146 : Int32) = 146 ∨ (146 : Int32) = 210 ∨ (146 : Int32) = 595 from by decide), b1]
      rfl
    have hs : f_Ref_system 146 g sp lt iw id ia nx 0 = (1, g, (f_Sta_raise 1792 262144 sp ex).1, 1792, 1792, 1) := by
      unfold f_Ref_system
      rw [if_neg (show ¬ (146 : Int32) = 19 from by decide), if_neg (show ¬ (146 : Int32) = 144 from by decide), if_neg (show ¬ (146 : Int32) = 83 from by decide), if_pos rfl, b2]
      rfl
    rw [perf_ctl w g sp nx lt ex en iw id ia ib is iu 146 _ rfl rfl rfl rfl hc rfl, ext_sys w g sp nx lt iw id ia ib rr re rw 146 _ (by decide) (by decide) (by decide) (by decide) (by decide) (by decide) (by decide) rfl rfl rfl rfl hs rfl]
    exact ⟨rfl, rfl, rfl, rfl, rfl, rfl, Or.inr ⟨rfl, rfl⟩⟩
theorem opx210 (hd : vp_in id 32) (ha : vp_in ia 32) (hb : vp_in ib 32) : IRl ex (f_Pro_performs w g sp nx lt ex en iw 31 id ia ib 210 is iu) (f_Ref_extended 210 g sp w lt rr re iw id ia ib nx 0 rw) := by
  rcases bar sp nx lt ex with ⟨b1, b2⟩ | ⟨b1, b2⟩
  · have hc : f_Ctl_runs g sp nx lt ex iw id ia ib 210 = (1, g, upd sp (ix ((32 + (ia &&& 15)) &&& 63)) (g (ix (id &&& 31))), nx, lt, ex) := by
      unfold f_Ctl_runs
      rw [if_neg (show ¬ (210 : Int32) = 19 from by decide), if_pos (show (210 : Int32) = 83 ∨ (210 : Int32) = 146 ∨ (210 : Int32) = 210 ∨ (210 : Int32) = 595 from by decide), b1]
      rfl
    have hs : f_Ref_system 210 g sp lt iw id ia nx 0 = (1, g, upd sp (ix (32 + (ia &&& 15))) (g (ix id)), lt, nx, 0) := by
      unfold f_Ref_system
      rw [if_neg (show ¬ (210 : Int32) = 19 from by decide), if_neg (show ¬ (210 : Int32) = 144 from by decide), if_neg (show ¬ (210 : Int32) = 83 from by decide), if_neg (show ¬ (210 : Int32) = 146 from by decide), if_pos rfl, b2]
      rfl
    rw [perf_ctl w g sp nx lt ex en iw id ia ib is iu 210 _ rfl rfl rfl rfl hc rfl, ext_sys w g sp nx lt iw id ia ib rr re rw 210 _ (by decide) (by decide) (by decide) (by decide) (by decide) (by decide) (by decide) rfl rfl rfl rfl hs rfl, and31 hd, spr ia]
    exact ⟨rfl, rfl, rfl, rfl, rfl, rfl, Or.inl ⟨rfl, rfl⟩⟩
  · have hc : f_Ctl_runs g sp nx lt ex iw id ia ib 210 = (1, g, (f_Sta_raise 1792 262144 sp ex).1, 1792, 1792, ex + 1) := by
      unfold f_Ctl_runs
      rw [if_neg (show ¬ (210 : Int32) = 19 from by decide), if_pos (show (210 : Int32) = 83 ∨ (210 : Int32) = 146 ∨ (210 : Int32) = 210 ∨ (210 : Int32) = 595 from by decide), b1]
      rfl
    have hs : f_Ref_system 210 g sp lt iw id ia nx 0 = (1, g, (f_Sta_raise 1792 262144 sp ex).1, 1792, 1792, 1) := by
      unfold f_Ref_system
      rw [if_neg (show ¬ (210 : Int32) = 19 from by decide), if_neg (show ¬ (210 : Int32) = 144 from by decide), if_neg (show ¬ (210 : Int32) = 83 from by decide), if_neg (show ¬ (210 : Int32) = 146 from by decide), if_pos rfl, b2]
      rfl
    rw [perf_ctl w g sp nx lt ex en iw id ia ib is iu 210 _ rfl rfl rfl rfl hc rfl, ext_sys w g sp nx lt iw id ia ib rr re rw 210 _ (by decide) (by decide) (by decide) (by decide) (by decide) (by decide) (by decide) rfl rfl rfl rfl hs rfl]
    exact ⟨rfl, rfl, rfl, rfl, rfl, rfl, Or.inr ⟨rfl, rfl⟩⟩
theorem opx595 (hd : vp_in id 32) (ha : vp_in ia 32) (hb : vp_in ib 32) : IRl ex (f_Pro_performs w g sp nx lt ex en iw 31 id ia ib 595 is iu) (f_Ref_extended 595 g sp w lt rr re iw id ia ib nx 0 rw) := by
  rcases bar sp nx lt ex with ⟨b1, b2⟩ | ⟨b1, b2⟩
  · have hc : f_Ctl_runs g sp nx lt ex iw id ia ib 595 = (1, upd g (ix (id &&& 31)) (sp (ix ((32 + (ia &&& 15)) &&& 63))), sp, nx, lt, ex) := by
      unfold f_Ctl_runs
      rw [if_neg (show ¬ (595 : Int32) = 19 from by decide), if_pos (show (595 : Int32) = 83 ∨ (595 : Int32) = 146 ∨ (595 : Int32) = 210 ∨ (595 : Int32) = 595 from by decide), b1]
      rfl
    have hs : f_Ref_system 595 g sp lt iw id ia nx 0 = (1, upd g (ix id) (sp (ix (32 + (ia &&& 15)))), sp, lt, nx, 0) := by
      unfold f_Ref_system
      rw [if_neg (show ¬ (595 : Int32) = 19 from by decide), if_neg (show ¬ (595 : Int32) = 144 from by decide), if_neg (show ¬ (595 : Int32) = 83 from by decide), if_neg (show ¬ (595 : Int32) = 146 from by decide), if_neg (show ¬ (595 : Int32) = 210 from by decide), if_pos rfl, b2]
      rfl
    rw [perf_ctl w g sp nx lt ex en iw id ia ib is iu 595 _ rfl rfl rfl rfl hc rfl, ext_sys w g sp nx lt iw id ia ib rr re rw 595 _ (by decide) (by decide) (by decide) (by decide) (by decide) (by decide) (by decide) rfl rfl rfl rfl hs rfl, and31 hd, spr ia]
    exact ⟨rfl, rfl, rfl, rfl, rfl, rfl, Or.inl ⟨rfl, rfl⟩⟩
  · have hc : f_Ctl_runs g sp nx lt ex iw id ia ib 595 = (1, g, (f_Sta_raise 1792 262144 sp ex).1, 1792, 1792, ex + 1) := by
      unfold f_Ctl_runs
      rw [if_neg (show ¬ (595 : Int32) = 19 from by decide), if_pos (show (595 : Int32) = 83 ∨ (595 : Int32) = 146 ∨ (595 : Int32) = 210 ∨ (595 : Int32) = 595 from by decide), b1]
      rfl
    have hs : f_Ref_system 595 g sp lt iw id ia nx 0 = (1, g, (f_Sta_raise 1792 262144 sp ex).1, 1792, 1792, 1) := by
      unfold f_Ref_system
      rw [if_neg (show ¬ (595 : Int32) = 19 from by decide), if_neg (show ¬ (595 : Int32) = 144 from by decide), if_neg (show ¬ (595 : Int32) = 83 from by decide), if_neg (show ¬ (595 : Int32) = 146 from by decide), if_neg (show ¬ (595 : Int32) = 210 from by decide), if_pos rfl, b2]
      rfl
    rw [perf_ctl w g sp nx lt ex en iw id ia ib is iu 595 _ rfl rfl rfl rfl hc rfl, ext_sys w g sp nx lt iw id ia ib rr re rw 595 _ (by decide) (by decide) (by decide) (by decide) (by decide) (by decide) (by decide) rfl rfl rfl rfl hs rfl]
    exact ⟨rfl, rfl, rfl, rfl, rfl, rfl, Or.inr ⟨rfl, rfl⟩⟩
end OPX3
