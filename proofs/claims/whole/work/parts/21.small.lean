theorem c64 : ∀ i, i < 64 → (4294967295#64).getLsbD i = decide (i < 32) := by decide +kernel
/-- an int as a number from 0 on -/
def un (x : Int32) : Nat := x.toBitVec.toNat
theorem un_lt (x : Int32) : un x < 2 ^ 32 := x.toBitVec.isLt
theorem uns_lN (x : Int32) : x.toInt64 &&& 4294967295 = lN (un x) := by
  apply Int64.toBitVec_inj.mp
  apply BitVec.eq_of_getLsbD_eq
  intro i hi
  rw [Int64.toBitVec_and, BitVec.getLsbD_and]
  show (x.toInt64.toBitVec.getLsbD i && (4294967295#64).getLsbD i) = (BitVec.ofNat 64 (un x)).getLsbD i
  rw [c64 i hi, Int32.toBitVec_toInt64, BitVec.getLsbD_signExtend, BitVec.getLsbD_ofNat]
  unfold un
  rw [BitVec.testBit_toNat]
  by_cases h : i < 32
  · simp [h, hi]
  · simp [h, BitVec.getLsbD_of_ge _ _ (Nat.le_of_not_lt h)]
theorem lN_toI {n : Nat} (h : n < 2 ^ 63) : (lN n).toInt = (n : Int) := pk_lT h
theorem run (x : Int32) : f_Ref_unsigned x = lN (un x) := uns_lN x
theorem un_toInt (x : Int32) : x.toInt = if un x < 2 ^ 31 then (un x : Int) else (un x : Int) - 2 ^ 32 := by
  show x.toBitVec.toInt = _
  rw [BitVec.toInt_eq_toNat_cond]
  unfold un
  by_cases h : x.toBitVec.toNat < 2 ^ 31
  · rw [if_pos (by omega), if_pos h]
  · rw [if_neg (by omega), if_neg h]; rfl
theorem addMin (x : Int32) : (x + (-2147483648)).toInt = (un x : Int) - 2 ^ 31 := by
  have e : (-2147483648 : Int32).toInt = -2147483648 := by decide
  have hl := un_lt x
  rw [Int32.toInt_add, e, un_toInt x]
  by_cases h : un x < 2 ^ 31
  · rw [if_pos h, Int.bmod_eq_of_le (by omega) (by omega)]
    omega
  · rw [if_neg h, Int.bmod_def]
    split <;> omega
theorem lg3 (x y : Int64) : lg_cmp x y = -1 ∨ lg_cmp x y = 0 ∨ lg_cmp x y = 1 := by
  unfold lg_cmp
  split
  · exact Or.inr (Or.inr rfl)
  · split
    · exact Or.inr (Or.inl rfl)
    · exact Or.inl rfl
theorem ord_eq (f : Int32) (x y : Int64) (rs : Nat → Int32) : f_Ref_compare f x y rs = f_Sta_keepOrder f (lg_cmp x y) rs := by
  unfold f_Ref_compare f_Ref_fieldSet f_Sta_keepOrder
  rw [show (31 : Int32) = nI 31 from rfl, rbit _ 31 (by omega)]
  rw [show nI 31 = (31 : Int32) from rfl, ush_31]
  rcases lg3 x y with h | h | h <;> rw [h] <;> cases bt (rs 3) 31 <;> rfl
theorem ord_sign {p q : Int32} (f : Int32) (sp : Nat → Int32) (h1 : 0 ≤ p ↔ 0 ≤ q) (h2 : p ≤ 0 ↔ q ≤ 0) (h3 : p = 0 ↔ q = 0) : f_Sta_keepOrder f p sp = f_Sta_keepOrder f q sp := by
  unfold f_Sta_keepOrder
  simp only [h1, h2, h3]
theorem cmp0_ge (v : Int32) : 0 ≤ f_Int_compare v 0 ↔ 0 ≤ v := by
  unfold f_Int_compare
  by_cases h : 0 ≤ v
  · rw [if_pos h]
    split <;> simp [h] <;> decide
  · rw [if_neg h]; simp [h]
theorem cmp0_le (v : Int32) : f_Int_compare v 0 ≤ 0 ↔ v ≤ 0 := by
  unfold f_Int_compare
  by_cases h : 0 ≤ v
  · rw [if_pos h]
    by_cases e : v = 0
    · rw [if_pos e, e]
    · rw [if_neg e]
      constructor
      · intro q; exact absurd q (by decide)
      · intro q
        exact absurd (Int32.le_antisymm q h) e
  · rw [if_neg h]
    constructor
    · intro _
      rw [Int32.le_iff_toInt_le] at h ⊢
      omega
    · intro _; decide
theorem cmp0_eq (v : Int32) : f_Int_compare v 0 = 0 ↔ v = 0 := by
  unfold f_Int_compare
  by_cases h : 0 ≤ v
  · rw [if_pos h]
    by_cases e : v = 0
    · rw [if_pos e]; simp [e]
    · rw [if_neg e]; simp [e]
  · rw [if_neg h]
    constructor
    · intro q; exact absurd q (by decide)
    · intro q; rw [q] at h; exact absurd (Int32.le_refl 0) h
theorem note_eq (v : Int32) (rs : Nat → Int32) : f_Ref_noteResult v rs = f_Sta_keepOrder 0 v rs := by
  unfold f_Ref_noteResult
  rw [ord_eq, show (0 : Int64) = (0 : Int32).toInt64 from rfl, cmp_int]
  exact ord_sign 0 rs (cmp0_ge v) (cmp0_le v) (cmp0_eq v)
theorem bit0 (x : Int32) : x &&& 1 = ob (bt x 0) := by
  apply b_ext
  intro i hi
  rw [b_and, bt_ob _ i hi, b_1 i hi]
  by_cases h : i = 0
  · subst h; rfl
  · simp [h]
theorem has1 (x : Int32) : f_Ins_has 1 x = ob (bt x 0) := by
  unfold f_Ins_has
  rw [bit0]
  cases bt x 0 <;> decide
theorem res_eq {n : Int32} (h : vp_in n 32) (v : Int32) (rg rs : Nat → Int32) (rc : Int32) : f_Ref_result n v rg rs rc = f_Sta_keepResult n v (f_Ins_has 1 rc) rg rs := by
  unfold f_Ref_result f_Sta_keepResult
  rw [has1, bit0, and31 h, note_eq]
  cases bt rc 0 <;> rfl
theorem sum_eq (x y z : Int32) (rs : Nat → Int32) : f_Ref_sum x y z rs = f_Ari_sumWithCarry x y z rs := by
  unfold f_Ref_sum f_Ari_sumWithCarry f_Ref_unsigned f_Ref_carry f_Sta_keepCarry
  generalize ((x.toInt64 &&& 4294967295) + (y.toInt64 &&& 4294967295)) + z.toInt64 = s
  have e : (lg_cmp s 4294967296 < 0) ↔ (lg_cmp s 4294967295 ≤ 0) := by
    unfold lg_cmp
    have e1 : (4294967296 : Int64).toInt = 4294967296 := by decide
    have e2 : (4294967295 : Int64).toInt = 4294967295 := by decide
    simp only [gt_iff_lt, Int64.lt_iff_toInt_lt, ← Int64.toInt_inj, e1, e2]
    by_cases h : s.toInt < 4294967296
    · rw [if_neg (by omega), if_neg (by omega)]
      split
      · omega
      · split <;> decide
    · by_cases h2 : s.toInt = 4294967296
      · rw [if_neg (by omega), if_pos h2, if_pos (by omega)]
        decide
      · rw [if_pos (by omega), if_pos (by omega)]
        decide
  simp only [e]
theorem sum_comm (x y z : Int32) (rs : Nat → Int32) : f_Ref_sum x y z rs = f_Ari_sumWithCarry y x z rs := by
  rw [sum_eq]
  unfold f_Ari_sumWithCarry
  rw [Int64.add_comm (x.toInt64 &&& 4294967295) (y.toInt64 &&& 4294967295)]
theorem cmpU (x y : Int32) : lg_cmp (f_Ref_unsigned x) (f_Ref_unsigned y) = f_Int_compareUnsigned x y := by
  unfold f_Int_compareUnsigned f_Int_compare lg_cmp
  rw [run, run]
  have hx := un_lt x
  have hy := un_lt y
  have e1 : (lN (un x) > lN (un y)) ↔ un y < un x := by
    rw [gt_iff_lt]; exact pk_lLT (by omega) (by omega)
  have e2 : (lN (un x) = lN (un y)) ↔ un x = un y := pk_lEQ (by omega) (by omega)
  have e3 : (y + -2147483648 ≤ x + -2147483648) ↔ un y ≤ un x := by
    rw [Int32.le_iff_toInt_le, addMin, addMin]; omega
  have e4 : (x + -2147483648 = y + -2147483648) ↔ un x = un y := by
    rw [← Int32.toInt_inj, addMin, addMin]; omega
  simp only [e1, e2, e3, e4]
  by_cases h : un y ≤ un x
  · rw [if_pos h]
    by_cases q : un x = un y
    · rw [if_neg (by omega), if_pos q, if_pos q]
    · rw [if_pos (by omega), if_neg q]
  · rw [if_neg h, if_neg (by omega), if_neg (by omega)]
theorem uns_small {x : Int32} (h : 0 ≤ x) : x.toInt64 = f_Ref_unsigned x := by
  rw [run]
  apply Int64.toInt_inj.mp
  have hl := un_lt x
  rw [Int32.toInt_toInt64, lN_toI (by omega), un_toInt]
  rw [Int32.le_iff_toInt_le, Int32.toInt_zero, un_toInt] at h
  by_cases q : un x < 2 ^ 31
  · rw [if_pos q]
  · rw [if_neg q] at h; omega
theorem low16_nn (x : Int32) : 0 ≤ x &&& 65535 := by
  obtain ⟨j, hj, e⟩ := pk_andE x (m := 65535) 16 (by decide)
  rw [e]
  exact nI_pos' (by omega)
/-- a number of five bits -/
theorem five (x : Int32) : ∃ k, k < 32 ∧ x &&& 31 = nI k := pk_andE x (m := 31) 5 (by decide)
theorem m31 {k : Nat} (h : k < 32) : (31 : Int32) - nI k = nI (31 - k) := by
  rw [show (31 : Int32) = nI 31 from rfl, pk_sub (by omega)]
theorem cond_bit {k : Nat} (h : k < 32) (sp : Nat → Int32) : f_Sta_conditionBit (nI k) sp = ob (bt (sp 2) (31 - k)) := by
  unfold f_Sta_conditionBit
  rw [m31 h, ush_1 _ _ (by omega)]
theorem cr_bit {k : Nat} (h : k < 32) (sp : Nat → Int32) : f_Ref_crBit (nI k) sp = ob (bt (sp 2) (31 - k)) := by
  unfold f_Ref_crBit
  rw [m31 h, rbit _ _ (by omega)]
theorem cr_set {k : Nat} (h : k < 32) (b : Bool) (sp : Nat → Int32) : f_Ref_crSet (nI k) (ob b) sp = f_Sta_keepConditionBit (nI k) (ob b) sp := by
  unfold f_Ref_crSet f_Sta_keepConditionBit
  rw [m31 h]
  congr 1
  apply b_ext
  intro i hi
  have h1 : ob b &&& 1 = ob b := by cases b <;> decide
  rw [h1]
  cases b
  · rw [if_pos (show ob false = 0 from rfl), b_or, bshl _ (by omega) _ hi]
    show _ = (_ || (_ && bt 0 _))
    rw [b_0]
    simp
  · rw [if_neg (by decide)]
    show bt (sp 2 ||| shl 1 (nI (31 - k))) i = bt ((sp 2 &&& (shl 1 (nI (31 - k)) ^^^ -1)) ||| shl 1 (nI (31 - k))) i
    rw [b_or, b_or, b_and, b_xor, b_m1 i hi]
    cases bt (sp 2) i <;> cases bt (shl 1 (nI (31 - k))) i <;> rfl
