theorem exc_eq (n b : Int32) (sp : Nat → Int32) (ex : Int32) : f_Ref_exception n b sp = ((f_Sta_raise n b sp ex).1, n, n, 1) := rfl
theorem cmp_lt (a b : Int32) : f_Int_compare a b < 0 ↔ a < b := by
  unfold f_Int_compare
  by_cases h : b ≤ a
  · rw [if_pos h]
    constructor
    · intro q
      by_cases e : a = b
      · rw [if_pos e] at q; exact absurd q (by decide)
      · rw [if_neg e] at q; exact absurd q (by decide)
    · intro q
      rw [Int32.lt_iff_toInt_lt] at q
      rw [Int32.le_iff_toInt_le] at h
      omega
  · rw [if_neg h]
    constructor
    · intro _
      rw [Int32.lt_iff_toInt_lt]
      rw [Int32.le_iff_toInt_le] at h
      omega
    · intro _; decide
theorem cmp_gt (a b : Int32) : 0 < f_Int_compare a b ↔ b < a := by
  unfold f_Int_compare
  by_cases h : b ≤ a
  · rw [if_pos h]
    by_cases e : a = b
    · rw [if_pos e]
      constructor
      · intro q; exact absurd q (by decide)
      · intro q
        rw [e, Int32.lt_iff_toInt_lt] at q
        omega
    · rw [if_neg e]
      constructor
      · intro _
        rw [Int32.lt_iff_toInt_lt]
        rw [Int32.le_iff_toInt_le] at h
        have : a.toInt ≠ b.toInt := fun q => e (Int32.toInt_inj.mp q)
        omega
      · intro _; decide
  · rw [if_neg h]
    constructor
    · intro q; exact absurd q (by decide)
    · intro q
      rw [Int32.lt_iff_toInt_lt] at q
      rw [Int32.le_iff_toInt_le] at h
      omega
theorem cmp_eq (a b : Int32) : f_Int_compare a b = 0 ↔ a = b := by
  unfold f_Int_compare
  by_cases h : b ≤ a
  · rw [if_pos h]
    by_cases e : a = b
    · rw [if_pos e]; simp [e]
    · rw [if_neg e]; simp [e]
  · rw [if_neg h]
    constructor
    · intro q; exact absurd q (by decide)
    · intro q; rw [q] at h; exact absurd (Int32.le_refl b) h
/-- two outcomes: nothing happened on both sides, or the same exception on both -/
def XR (rs : Nat → Int32) (rl rn rf nx lt ex : Int32) (y z : (Nat → Int32) × Int32 × Int32 × Int32) : Prop := (y = (rs, rl, rn, rf) ∧ z = (rs, nx, lt, ex)) ∨ ∃ n b, y = f_Ref_exception n b rs ∧ z = f_Sta_raise n b rs ex
theorem ite_1 {A : Prop} [Decidable A] {T : Int32} : ((if A then (1 : Int32) else T) = 0) ↔ (¬ A ∧ T = 0) := by
  by_cases h : A
  · rw [if_pos h]; exact ⟨fun q => absurd q (by decide), fun q => absurd h q.1⟩
  · rw [if_neg h]; exact ⟨fun q => ⟨h, q⟩, fun q => q.2⟩
set_option maxHeartbeats 4000000 in
set_option maxRecDepth 100000 in
theorem trap_XR (y : Int32) (rg rs : Nat → Int32) (rl rd ra rn rf nx lt ex : Int32) : XR rs rl rn rf nx lt ex (f_Ref_trap y rg rs rl rd ra rn rf) (f_Cmp_trap rd (rg (ix ra)) y rs nx lt ex) := by
  unfold f_Ref_trap f_Cmp_trap
  dsimp only
  generalize rg (ix ra) = x
  simp only [tr, ← cmpU, cmp_lt, cmp_gt, cmp_eq]
  have b4 : (rd &&& 16) = 0 ↔ f_Ref_bit rd 4 = 0 := (mtest rd 4 (by omega)).trans (rbit0 rd 4 (by omega)).symm
  have b3 : (rd &&& 8) = 0 ↔ f_Ref_bit rd 3 = 0 := (mtest rd 3 (by omega)).trans (rbit0 rd 3 (by omega)).symm
  have b2 : (rd &&& 4) = 0 ↔ f_Ref_bit rd 2 = 0 := (mtest rd 2 (by omega)).trans (rbit0 rd 2 (by omega)).symm
  have b1 : (rd &&& 2) = 0 ↔ f_Ref_bit rd 1 = 0 := (mtest rd 1 (by omega)).trans (rbit0 rd 1 (by omega)).symm
  have b0 : (rd &&& 1) = 0 ↔ f_Ref_bit rd 0 = 0 := (mtest rd 0 (by omega)).trans (rbit0 rd 0 (by omega)).symm
  simp only [b4, b3, b2, b1, b0, ite_1]
  have same : XR rs rl rn rf nx lt ex (rs, rl, rn, rf) (rs, nx, lt, ex) := Or.inl ⟨rfl, rfl⟩
  have diff : XR rs rl rn rf nx lt ex ((f_Ref_exception 1792 131072 rs).1, (f_Ref_exception 1792 131072 rs).2.1, (f_Ref_exception 1792 131072 rs).2.2.1, (f_Ref_exception 1792 131072 rs).2.2.2) ((f_Sta_raise 1792 131072 rs ex).1, (f_Sta_raise 1792 131072 rs ex).2.1, (f_Sta_raise 1792 131072 rs ex).2.2.1, (f_Sta_raise 1792 131072 rs ex).2.2.2) := Or.inr ⟨1792, 131072, rfl, rfl⟩
  by_cases a4 : ¬ f_Ref_bit rd 4 = 0 ∧ x < y
  · rw [if_pos a4, if_neg (fun q => q.1 a4)]; exact diff
  rw [if_neg a4]
  by_cases a3 : ¬ f_Ref_bit rd 3 = 0 ∧ y < x
  · rw [if_pos a3, if_neg (fun q => q.2.1 a3)]; exact diff
  rw [if_neg a3]
  by_cases a2 : ¬ f_Ref_bit rd 2 = 0 ∧ x = y
  · rw [if_pos a2, if_neg (fun q => q.2.2.1 a2)]; exact diff
  rw [if_neg a2]
  by_cases a0 : (if f_Ref_bit rd 0 = 0 then (0 : Int32) else if lg_cmp (f_Ref_unsigned x) (f_Ref_unsigned y) ≤ 0 then 0 else 1) = 0
  · by_cases n1 : f_Ref_bit rd 1 = 0
    · rw [if_pos n1, if_pos a0, if_pos ⟨a4, a3, a2, fun q => q.1 n1, a0⟩]; exact same
    · by_cases u : lg_cmp (f_Ref_unsigned x) (f_Ref_unsigned y) < 0
      · rw [if_neg n1, if_neg (fun q => q.1 u), if_neg (fun q => q.2.2.2.1 ⟨n1, u⟩)]; exact diff
      · rw [if_neg n1, if_pos ⟨u, a0⟩, if_pos ⟨a4, a3, a2, fun q => u q.2, a0⟩]; exact same
  · by_cases n1 : f_Ref_bit rd 1 = 0
    · rw [if_pos n1, if_neg a0, if_neg (fun q => a0 q.2.2.2.2)]; exact diff
    · rw [if_neg n1, if_neg (fun q => a0 q.2), if_neg (fun q => a0 q.2.2.2.2)]; exact diff
theorem mark_touch (way : Int32) (w : Nat → Int32) {en re : Int32} (h : (en = -1 ∧ re = -1) ∨ ∃ k, k < 16384 ∧ re = nI k ∧ en = nI (4 * k)) : f_Map_mark way w en = f_Ref_touch way w re := by
  unfold f_Map_mark f_Ref_touch
  rcases h with ⟨rfl, rfl⟩ | ⟨k, hk, rfl, rfl⟩
  · rw [if_pos rfl, if_pos (by decide)]
  · have n1 : ¬ nI (4 * k) = -1 := by
      intro q
      have h1 : (nI (4 * k)).toInt = (4 * k : Nat) := nI_toInt (by omega)
      rw [q] at h1
      have e : (-1 : Int32).toInt = -1 := by decide
      omega
    rw [if_neg n1, if_neg (nI_pos (by omega))]
    have e : ush (nI (4 * k) &&& 65535) 2 = nI k := by
      rw [pk_andN (by omega) 16 (by decide), Nat.mod_eq_of_lt (by omega), show (2 : Int32) = nI 2 from rfl, ushN (by omega) (by omega)]
      congr 1
      omega
    unfold f_Mem_keep f_Mem_at
    rw [e]
theorem sx16 (x : Int32) : shr (shl x 16) 16 = x.toInt16.toInt32 := by
  apply b_ext
  intro i hi
  rw [show (16 : Int32) = nI 16 from rfl, bshr 16 (by omega) _ hi]
  show _ = (x.toInt16.toInt32.toBitVec).getLsbD i
  rw [Int16.toBitVec_toInt32, BitVec.getLsbD_signExtend, Int32.toBitVec_toInt16, BitVec.getLsbD_signExtend]
  by_cases h : i < 16
  · rw [if_pos (by omega), bshl 16 (by omega) _ (by omega), show 16 + i - 16 = i from by omega]
    simp [h, hi, bt]
  · rw [if_neg (by omega), bshl 16 (by omega) _ (by omega)]
    simp [h, hi, bt, BitVec.msb_eq_getLsbD_last, BitVec.getLsbD_signExtend, BitVec.getElem_signExtend]
theorem sx8 (x : Int32) : shr (shl x 24) 24 = x.toInt8.toInt32 := by
  apply b_ext
  intro i hi
  rw [show (24 : Int32) = nI 24 from rfl, bshr 24 (by omega) _ hi]
  show _ = (x.toInt8.toInt32.toBitVec).getLsbD i
  rw [Int8.toBitVec_toInt32, BitVec.getLsbD_signExtend, Int32.toBitVec_toInt8, BitVec.getLsbD_signExtend]
  by_cases h : i < 8
  · rw [if_pos (by omega), bshl 24 (by omega) _ (by omega), show 24 + i - 24 = i from by omega]
    simp [h, hi, bt]
  · rw [if_neg (by omega), bshl 24 (by omega) _ (by omega)]
    simp [h, hi, bt, BitVec.msb_eq_getLsbD_last, BitVec.getLsbD_signExtend, BitVec.getElem_signExtend]
