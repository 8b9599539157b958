/-- what locate answers, against what resolve answers -/
def LR (z : Int32 × Int32) (y : Int32 × Int32 × Int32) : Prop := (y.2.1 = 0 ∧ z.1 = y.1 &&& 65535 ∧ ((z.2 = -1 ∧ y.2.2 = -1) ∨ ∃ k, k < 16384 ∧ y.2.2 = nI k ∧ z.2 = nI (4 * k))) ∨ ((y.2.1 = -1 ∨ y.2.1 = -2 ∨ y.2.1 = -3) ∧ z.1 = y.2.1)
theorem c13 : ∀ i, i < 32 → bt (-8192) i = !bt 8191 i := by decide +kernel
theorem blk_val (l e m : Int32) : ((l &&& (-8192 &&& (m ^^^ -1))) ||| (e &&& ((-8192 &&& (m ^^^ -1)) ^^^ -1))) = (((l &&& (m ^^^ -1)) &&& -8192) ||| (e &&& (m ||| 8191))) := by
  apply b_ext
  intro i hi
  simp only [b_or, b_and, b_xor, b_m1 i hi, c13 i hi]
  cases bt l i <;> cases bt e i <;> cases bt m i <;> cases bt 8191 i <;> rfl
theorem blk_LR (p0 p1 k bl : Int32) (sp : Nat → Int32) (hu : f_Sta_read bl sp = ub p1 k sp) (hl : f_Sta_read (bl + 1) sp = lb p1 k sp) : LR (f_Map_throughBlock p0 p1 bl sp, -1) (bk p0 p1 k sp) := by
  unfold bk f_Map_throughBlock f_Ref_block
  rw [hu, hl, show shl (shr (ub p1 k sp) 2 &&& 2047) 13 = f_Map_freeBits (ub p1 k sp) from rfl, blk_val]
  by_cases h0 : (lb p1 k sp &&& 3) = 0
  · simp only [if_pos h0]
    exact Or.inr ⟨Or.inr (Or.inl rfl), rfl⟩
  · simp only [if_neg h0]
    by_cases h2 : p1 = 2
    · simp only [if_pos h2]
      by_cases h3 : (lb p1 k sp &&& 3) = 2
      · simp only [if_pos h3]
        exact Or.inl ⟨rfl, rfl, Or.inl ⟨rfl, rfl⟩⟩
      · simp only [if_neg h3]
        exact Or.inr ⟨Or.inr (Or.inl rfl), rfl⟩
    · simp only [if_neg h2]
      exact Or.inl ⟨rfl, rfl, Or.inl ⟨rfl, rfl⟩⟩
theorem rd_lb (p1 k k1 : Int32) (sp : Nat → Int32) (h : vp_in (17 + k) 48) (h2 : vp_in (25 + k) 48) (e1 : 16 + k + 1 = 17 + k) (e2 : 24 + k + 1 = 25 + k) : f_Sta_read (((if p1 = 0 then (16 : Int32) else 24) + k) + 1) sp = lb p1 k sp := by
  by_cases q : p1 = 0
  · unfold lb
    rw [if_pos q, if_pos q, e1]
    exact read_ix _ _ h
  · unfold lb
    rw [if_neg q, if_neg q, e2]
    exact read_ix _ _ h2
/-- one found entry, in the reference -/
def pgS (p0 p1 key S : Int32) (rm : Nat → Int32) (rr re : Int32) : Int32 × Int32 × Int32 :=
  if key = 0 then
    if p1 = 2 then
      if (rm (ix (S + 1)) &&& 3) = 3 then (0, -2, re) else (((rm (ix (S + 1)) &&& -4096) ||| (p0 &&& 4095)), rr, S + 1)
    else (((rm (ix (S + 1)) &&& -4096) ||| (p0 &&& 4095)), rr, S + 1)
  else
    if (rm (ix (S + 1)) &&& 3) = 0 then (0, -2, re) else
    if p1 = 2 then
      if (rm (ix (S + 1)) &&& 3) = 3 then (0, -2, re) else if (rm (ix (S + 1)) &&& 3) = 1 then (0, -2, re) else (((rm (ix (S + 1)) &&& -4096) ||| (p0 &&& 4095)), rr, S + 1)
    else (((rm (ix (S + 1)) &&& -4096) ||| (p0 &&& 4095)), rr, S + 1)
def pgX (p0 p1 key S1 S2 : Int32) (rm : Nat → Int32) (rr re : Int32) : Int32 × Int32 × Int32 :=
  if 0 ≤ S1 then pgS p0 p1 key S1 rm rr re else if 0 ≤ S2 then pgS p0 p1 key S2 rm rr re else (0, -1, re)
abbrev sg (p0 : Int32) (rs : Nat → Int32) : Int32 := rs (ix (32 + ush p0 28))
abbrev sa (p0 : Int32) (rs rm : Nat → Int32) : Int32 := f_Ref_search (((sg p0 rs &&& 16777215) &&& 524287) ^^^ (ush p0 12 &&& 65535)) (((-2147483648) + 128 * (sg p0 rs &&& 16777215)) + ush (ush p0 12 &&& 65535) 10) rs rm
abbrev sb (p0 : Int32) (rs rm : Nat → Int32) : Int32 := f_Ref_search ((((sg p0 rs &&& 16777215) &&& 524287) ^^^ (ush p0 12 &&& 65535)) ^^^ -1) ((((-2147483648) + 128 * (sg p0 rs &&& 16777215)) + ush (ush p0 12 &&& 65535) 10) + 64) rs rm
theorem pg_nf (p0 p1 p2 : Int32) (rs rm : Nat → Int32) (rr re : Int32) : f_Ref_paged p0 p1 p2 rs rm rr re = (if f_Ref_bit (sg p0 rs) 31 = 0 then (if p1 = 0 then (if f_Ref_bit (sg p0 rs) 28 = 0 then pgX p0 p1 (f_Ref_bit (sg p0 rs) (if p2 = 0 then 30 else 29)) (sa p0 rs rm) (sb p0 rs rm) rm rr re else (0, -3, re)) else pgX p0 p1 (f_Ref_bit (sg p0 rs) (if p2 = 0 then 30 else 29)) (sa p0 rs rm) (sb p0 rs rm) rm rr re) else (0, -1, re)) := rfl
theorem at_succ {k : Nat} (hk : k < 16383) (w : Nat → Int32) : f_Mem_at (4 * nI k + 4) w = w (ix (nI k + 1)) := by
  unfold f_Mem_at
  rw [show (4 : Int32) = nI 4 from rfl, pk_mul, nI_add, pk_andN (by omega) 16 (by decide), Nat.mod_eq_of_lt (by omega), show (2 : Int32) = nI 2 from rfl, ushN (by omega) (by omega), show (1 : Int32) = nI 1 from rfl, nI_add]
  rw [show (4 * k + 4) / 2 ^ 2 = k + 1 from by omega]
theorem s_nI {S : Int32} (h0 : 0 ≤ S) (h : S < 16383) : ∃ k, k < 16383 ∧ S = nI k := by
  have h1 : ¬ S < 0 := by
    rw [Int32.lt_iff_toInt_lt]
    rw [Int32.le_iff_toInt_le] at h0
    omega
  have e := ix_nI h1
  refine ⟨ix S, ?_, e⟩
  rw [e, Int32.lt_iff_toInt_lt, nI_toInt (ix_lt S)] at h
  have e2 : (16383 : Int32).toInt = 16383 := by decide
  omega
theorem key_iff (s : Int32) (sp : Nat → Int32) : ((s &&& (if f_Sta_has 1 16384 sp = 0 then (1073741824 : Int32) else 536870912)) = 0) ↔ f_Ref_bit s (if f_Ref_bit (sp 1) 14 = 0 then (30 : Int32) else 29) = 0 := by
  have e : f_Ref_bit (sp 1) 14 = 0 ↔ bt (sp 1) 14 = false := rbit0 (sp 1) 14 (by omega)
  have e2 := has_bit 14 (by omega) 16384 (by decide) sp
  by_cases h : bt (sp 1) 14 = false
  · rw [if_pos (e.mpr h), if_pos (e2.mpr h)]
    exact (mtest s 30 (by omega)).trans (rbit0 s 30 (by omega)).symm
  · rw [if_neg (fun q => h (e.mp q)), if_neg (fun q => h (e2.mp q))]
    exact (mtest s 29 (by omega)).trans (rbit0 s 29 (by omega)).symm
theorem entry_LR (p0 p1 s S : Int32) (w sp : Nat → Int32) (h0 : 0 ≤ S) (h1 : S < 16383) : LR (f_Map_throughEntry p0 p1 s (4 * S + 4) w sp (-1)) (pgS p0 p1 (f_Ref_bit s (if f_Ref_bit (sp 1) 14 = 0 then (30 : Int32) else 29)) S w 0 (-1)) := by
  obtain ⟨k, hk, rfl⟩ := s_nI h0 h1
  unfold f_Map_throughEntry pgS f_Map_refuses
  rw [at_succ hk w]
  have good : LR (((w (ix (nI k + 1)) &&& -4096) ||| (p0 &&& 4095)) &&& 65535, 4 * nI k + 4) (((w (ix (nI k + 1)) &&& -4096) ||| (p0 &&& 4095)), 0, nI k + 1) := by
    refine Or.inl ⟨rfl, rfl, Or.inr ⟨k + 1, by omega, nI_1 k, ?_⟩⟩
    show 4 * nI k + 4 = nI (4 * (k + 1))
    rw [show (4 : Int32) = nI 4 from rfl, pk_mul, nI_add]
    congr 1
  have bad : LR (-2, -1) (0, -2, -1) := Or.inr ⟨Or.inr (Or.inl rfl), rfl⟩
  generalize w (ix (nI k + 1)) = v at good
  by_cases hk0 : f_Ref_bit s (if f_Ref_bit (sp 1) 14 = 0 then (30 : Int32) else 29) = 0
  · rw [if_pos hk0, if_pos ((key_iff s sp).mpr hk0)]
    simp only [if_true]
    by_cases h2 : p1 = 2
    · simp only [if_pos h2]
      by_cases h3 : (v &&& 3) = 3
      · simp only [if_pos h3]; exact bad
      · simp only [if_neg h3]; exact good
    · simp only [if_neg h2]; exact good
  · rw [if_neg hk0, if_neg (fun q => hk0 ((key_iff s sp).mp q))]
    rw [if_neg (show ¬ (1 : Int32) = 0 from by decide)]
    by_cases h3 : (v &&& 3) = 0
    · simp only [if_pos h3]; exact bad
    · simp only [if_neg h3]
      by_cases h2 : p1 = 2
      · simp only [if_pos h2]
        by_cases h4 : (v &&& 3) = 3
        · simp only [if_pos h4]; exact bad
        · simp only [if_neg h4]
          by_cases h5 : (v &&& 3) = 1
          · simp only [if_pos h5]; exact bad
          · simp only [if_neg h5]; exact good
      · simp only [if_neg h2]; exact good
