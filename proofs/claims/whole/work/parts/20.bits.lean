def bt (x : Int32) (i : Nat) : Bool := x.toBitVec.getLsbD i
theorem b_ext {x y : Int32} (h : ∀ i, i < 32 → bt x i = bt y i) : x = y := Int32.toBitVec_inj.mp (BitVec.eq_of_getLsbD_eq (fun i hi => h i hi))
theorem b_or (x y : Int32) (i : Nat) : bt (x ||| y) i = (bt x i || bt y i) := by unfold bt; rw [Int32.toBitVec_or, BitVec.getLsbD_or]
theorem b_and (x y : Int32) (i : Nat) : bt (x &&& y) i = (bt x i && bt y i) := by unfold bt; rw [Int32.toBitVec_and, BitVec.getLsbD_and]
theorem b_xor (x y : Int32) (i : Nat) : bt (x ^^^ y) i = (bt x i ^^ bt y i) := by unfold bt; rw [Int32.toBitVec_xor, BitVec.getLsbD_xor]
theorem b_big {x : Int32} {i : Nat} (h : 32 ≤ i) : bt x i = false := BitVec.getLsbD_of_ge _ _ h
theorem b_255 (i : Nat) : bt 255 i = decide (i < 8) := by
  rcases Nat.lt_or_ge i 32 with h | h
  · exact (by decide +kernel : ∀ i, i < 32 → bt 255 i = decide (i < 8)) i h
  · rw [b_big h, decide_eq_false (by omega)]
theorem b_65535 (i : Nat) : bt 65535 i = decide (i < 16) := by
  rcases Nat.lt_or_ge i 32 with h | h
  · exact (by decide +kernel : ∀ i, i < 32 → bt 65535 i = decide (i < 16)) i h
  · rw [b_big h, decide_eq_false (by omega)]
theorem b_m1 : ∀ i, i < 32 → bt (-1) i = true := by decide +kernel
theorem b_0 (i : Nat) : bt 0 i = false := BitVec.getLsbD_zero
theorem s_l : ∀ n, n < 32 → ((nI n &&& 31).toBitVec.smod 32).toNat = n := by decide +kernel
theorem s_u : ∀ n, n < 32 → (((nI n).toUInt32 &&& Int32.toUInt32 31).toBitVec % 32).toNat = n := by decide +kernel
theorem b_shl (n : Nat) (hn : n < 32) (x : Int32) {i : Nat} (hi : i < 32) : bt (x <<< (nI n &&& 31)) i = (decide (n ≤ i) && bt x (i - n)) := by
  unfold bt
  rw [Int32.toBitVec_shiftLeft]
  show (x.toBitVec <<< ((nI n &&& 31).toBitVec.smod 32).toNat).getLsbD i = _
  rw [s_l n hn, BitVec.getLsbD_shiftLeft]
  rcases Nat.lt_or_ge i n with h | h
  · simp [h, Nat.not_le.mpr h]
  · simp [hi, h, Nat.not_lt.mpr h]
theorem b_ushr (n : Nat) (hn : n < 32) (x : Int32) (i : Nat) : bt ((x.toUInt32 >>> ((nI n).toUInt32 &&& Int32.toUInt32 31)).toInt32) i = bt x (n + i) := by
  show (x.toUInt32 >>> ((nI n).toUInt32 &&& Int32.toUInt32 31)).toBitVec.getLsbD i = x.toUInt32.toBitVec.getLsbD (n + i)
  rw [UInt32.toBitVec_shiftRight]
  show (x.toUInt32.toBitVec >>> (((nI n).toUInt32 &&& Int32.toUInt32 31).toBitVec % 32).toNat).getLsbD i = _
  rw [s_u n hn, BitVec.getLsbD_ushiftRight]
theorem b_sshr (n : Nat) (hn : n < 32) (x : Int32) {i : Nat} (hi : i < 32) : bt (x >>> (nI n &&& 31)) i = if n + i < 32 then bt x (n + i) else bt x 31 := by
  unfold bt
  rw [Int32.toBitVec_shiftRight]
  show (x.toBitVec.sshiftRight ((nI n &&& 31).toBitVec.smod 32).toNat).getLsbD i = _
  rw [s_l n hn, BitVec.getLsbD_sshiftRight, BitVec.msb_eq_getLsbD_last]
  simp [hi]

theorem bshl (n : Nat) (hn : n < 32) (x : Int32) {i : Nat} (hi : i < 32) : bt (shl x (nI n)) i = (decide (n ≤ i) && bt x (i - n)) := b_shl n hn x hi
theorem bush (n : Nat) (hn : n < 32) (x : Int32) (i : Nat) : bt (ush x (nI n)) i = bt x (n + i) := b_ushr n hn x i
theorem bshr (n : Nat) (hn : n < 32) (x : Int32) {i : Nat} (hi : i < 32) : bt (shr x (nI n)) i = if n + i < 32 then bt x (n + i) else bt x 31 := b_sshr n hn x hi
theorem b_1 : ∀ i, i < 32 → bt 1 i = decide (i = 0) := by decide +kernel
def ob (b : Bool) : Int32 := if b then 1 else 0
theorem bt_ob (b : Bool) : ∀ i, i < 32 → bt (ob b) i = (b && decide (i = 0)) := by
  intro i hi
  cases b
  · show bt 0 i = _
    rw [b_0]; rfl
  · show bt 1 i = _
    rw [b_1 i hi]; simp
theorem shr_1 (v : Int32) (k : Nat) (hk : k < 32) : shr v (nI k) &&& 1 = ob (bt v k) := by
  apply b_ext
  intro i hi
  rw [b_and, bt_ob _ i hi, b_1 i hi]
  by_cases h : i = 0
  · subst h
    rw [bshr k hk v (by omega), if_pos (by omega)]
    simp
  · simp [h]
theorem ush_1 (v : Int32) (k : Nat) (hk : k < 32) : ush v (nI k) &&& 1 = ob (bt v k) := by
  apply b_ext
  intro i hi
  rw [b_and, bt_ob _ i hi, b_1 i hi]
  by_cases h : i = 0
  · subst h
    rw [bush k hk v]
    simp
  · simp [h]
theorem ush_31 (v : Int32) : ush v 31 = ob (bt v 31) := by
  apply b_ext
  intro i hi
  rw [show (31 : Int32) = nI 31 from rfl, bush 31 (by omega) v i, bt_ob _ i hi]
  by_cases h : i = 0
  · subst h; simp
  · rw [b_big (by omega)]; simp [h]
theorem ob_eq1 (b : Bool) : ob b = 1 ↔ b = true := by cases b <;> decide
theorem ob_eq0 (b : Bool) : ob b = 0 ↔ b = false := by cases b <;> decide
theorem rbit (v : Int32) (k : Nat) (hk : k < 32) : f_Ref_bit v (nI k) = ob (bt v k) := by
  unfold f_Ref_bit
  rw [shr_1 v k hk]
  cases bt v k <;> decide
theorem rbit0 (v : Int32) (k : Nat) (hk : k < 32) : f_Ref_bit v (nI k) = 0 ↔ bt v k = false := by
  rw [rbit v k hk, ob_eq0]
/-- one bit by its mask -/
theorem mtest (v : Int32) (k : Nat) (hk : k < 32) : (v &&& shl 1 (nI k)) = 0 ↔ bt v k = false := by
  constructor
  · intro h
    have h1 : bt (v &&& shl 1 (nI k)) k = false := by rw [h]; exact b_0 k
    rw [b_and, bshl k hk 1 hk] at h1
    simpa [b_1] using h1
  · intro h
    apply b_ext
    intro i hi
    rw [b_and, bshl k hk 1 hi, b_0]
    by_cases hik : k ≤ i
    · rw [b_1 (i - k) (by omega)]
      by_cases e : i = k
      · subst e; rw [h]; rfl
      · have : ¬ i - k = 0 := by omega
        simp [this]
    · simp [hik]
theorem and31 {x : Int32} (h : vp_in x 32) : x &&& 31 = x := by
  obtain ⟨j, hj, e⟩ := vp_in_of h (by decide)
  rw [e, pk_andN (by omega) 5 (by decide), Nat.mod_eq_of_lt (by omega)]
theorem and63 {x : Int32} (h : vp_in x 48) : x &&& 63 = x := by
  obtain ⟨j, hj, e⟩ := vp_in_of h (by decide)
  rw [e, pk_andN (by omega) 6 (by decide), Nat.mod_eq_of_lt (by omega)]
theorem four (x : Int32) (h : vp_in x 16384) : ush ((4 * x) &&& 65535) 2 = x := by
  obtain ⟨j, hj, e⟩ := vp_in_of h (by decide)
  rw [e, show (4 : Int32) = nI 4 from rfl, pk_mul, pk_andN (by omega) 16 (by decide), Nat.mod_eq_of_lt (by omega)]
  unfold ush
  rw [pk_ushrN (by omega) 2 2 (by decide)]
  congr 1
  omega
theorem cmp_int (x y : Int32) : lg_cmp x.toInt64 y.toInt64 = f_Int_compare x y := by
  unfold lg_cmp f_Int_compare
  have h1 : (y.toInt64 < x.toInt64) ↔ y < x := by
    rw [Int64.lt_iff_toInt_lt, Int32.lt_iff_toInt_lt, Int32.toInt_toInt64, Int32.toInt_toInt64]
  have h2 : (x.toInt64 = y.toInt64) ↔ x = y := by
    rw [← Int64.toInt_inj, ← Int32.toInt_inj, Int32.toInt_toInt64, Int32.toInt_toInt64]
  by_cases h : y ≤ x
  · rw [if_pos h]
    by_cases e : x = y
    · rw [if_pos e]
      subst e
      simp
    · rw [if_neg e]
      have : y < x := by
        rw [Int32.lt_iff_toInt_lt]
        rw [Int32.le_iff_toInt_le] at h
        have : x.toInt ≠ y.toInt := fun q => e (Int32.toInt_inj.mp q)
        omega
      rw [if_pos (h1.mpr this)]
  · rw [if_neg h]
    have n1 : ¬ y < x := by
      rw [Int32.lt_iff_toInt_lt]
      rw [Int32.le_iff_toInt_le] at h
      omega
    have n2 : ¬ x = y := by
      intro q
      apply h
      rw [q]
      exact Int32.le_refl y
    rw [if_neg (fun q => n1 (h1.mp q)), if_neg (fun q => n2 (h2.mp q))]
