theorem ushN {a k : Nat} (ha : a < 2 ^ 32) (hk : k < 32) : ush (nI a) (nI k) = nI (a / 2 ^ k) := pk_ushrN ha (nI k) k (s_u k hk)
theorem bt_nI (u j : Nat) (hj : j < 32) : bt (nI u) j = u.testBit j := by
  show (BitVec.ofNat 32 u).getLsbD j = _
  rw [BitVec.getLsbD_ofNat]
  simp [hj]
theorem zb0 {u : Nat} (j : Nat) (hj : j < 32) (h : u < 2 ^ j) : f_Ref_bit (nI u) (nI j) = 0 := by
  rw [rbit0 _ j hj, bt_nI u j hj]
  exact Nat.testBit_lt_two_pow h
theorem zb1 {u : Nat} (j : Nat) (hj : j < 32) (h1 : 2 ^ j ≤ u) (h2 : u < 2 ^ (j + 1)) : ¬ f_Ref_bit (nI u) (nI j) = 0 := by
  rw [rbit0 _ j hj, bt_nI u j hj, Nat.testBit_eq_decide_div_mod_eq]
  have e : u / 2 ^ j = 1 := by
    apply Nat.div_eq_of_lt_le
    · omega
    · rw [Nat.pow_succ] at h2; omega
  rw [e]
  decide
theorem rz_0 {u : Nat} (h1 : 2 ^ 0 ≤ u) (h2 : u < 2 ^ (0 + 1)) : f_Ref_zeros (nI u) = 31 := by
  unfold f_Ref_zeros
  rw [if_pos (show f_Ref_bit (nI u) 31 = 0 from zb0 31 (by omega) (by omega)), if_pos (show f_Ref_bit (nI u) 30 = 0 from zb0 30 (by omega) (by omega)), if_pos (show f_Ref_bit (nI u) 29 = 0 from zb0 29 (by omega) (by omega)), if_pos (show f_Ref_bit (nI u) 28 = 0 from zb0 28 (by omega) (by omega)), if_pos (show f_Ref_bit (nI u) 27 = 0 from zb0 27 (by omega) (by omega)), if_pos (show f_Ref_bit (nI u) 26 = 0 from zb0 26 (by omega) (by omega)), if_pos (show f_Ref_bit (nI u) 25 = 0 from zb0 25 (by omega) (by omega)), if_pos (show f_Ref_bit (nI u) 24 = 0 from zb0 24 (by omega) (by omega)), if_pos (show f_Ref_bit (nI u) 23 = 0 from zb0 23 (by omega) (by omega)), if_pos (show f_Ref_bit (nI u) 22 = 0 from zb0 22 (by omega) (by omega)), if_pos (show f_Ref_bit (nI u) 21 = 0 from zb0 21 (by omega) (by omega)), if_pos (show f_Ref_bit (nI u) 20 = 0 from zb0 20 (by omega) (by omega)), if_pos (show f_Ref_bit (nI u) 19 = 0 from zb0 19 (by omega) (by omega)), if_pos (show f_Ref_bit (nI u) 18 = 0 from zb0 18 (by omega) (by omega)), if_pos (show f_Ref_bit (nI u) 17 = 0 from zb0 17 (by omega) (by omega)), if_pos (show f_Ref_bit (nI u) 16 = 0 from zb0 16 (by omega) (by omega)), if_pos (show f_Ref_bit (nI u) 15 = 0 from zb0 15 (by omega) (by omega)), if_pos (show f_Ref_bit (nI u) 14 = 0 from zb0 14 (by omega) (by omega)), if_pos (show f_Ref_bit (nI u) 13 = 0 from zb0 13 (by omega) (by omega)), if_pos (show f_Ref_bit (nI u) 12 = 0 from zb0 12 (by omega) (by omega)), if_pos (show f_Ref_bit (nI u) 11 = 0 from zb0 11 (by omega) (by omega)), if_pos (show f_Ref_bit (nI u) 10 = 0 from zb0 10 (by omega) (by omega)), if_pos (show f_Ref_bit (nI u) 9 = 0 from zb0 9 (by omega) (by omega)), if_pos (show f_Ref_bit (nI u) 8 = 0 from zb0 8 (by omega) (by omega)), if_pos (show f_Ref_bit (nI u) 7 = 0 from zb0 7 (by omega) (by omega)), if_pos (show f_Ref_bit (nI u) 6 = 0 from zb0 6 (by omega) (by omega)), if_pos (show f_Ref_bit (nI u) 5 = 0 from zb0 5 (by omega) (by omega)), if_pos (show f_Ref_bit (nI u) 4 = 0 from zb0 4 (by omega) (by omega)), if_pos (show f_Ref_bit (nI u) 3 = 0 from zb0 3 (by omega) (by omega)), if_pos (show f_Ref_bit (nI u) 2 = 0 from zb0 2 (by omega) (by omega)), if_pos (show f_Ref_bit (nI u) 1 = 0 from zb0 1 (by omega) (by omega)), if_neg (show ¬ f_Ref_bit (nI u) 0 = 0 from zb1 0 (by omega) h1 h2)]
theorem nz_0 {u : Nat} (h1 : 2 ^ 0 ≤ u) (h2 : u < 2 ^ (0 + 1)) : f_Int_numberOfLeadingZeros (nI u) = 31 := by
  unfold f_Int_numberOfLeadingZeros
  rw [if_pos (show (0 : Int32) < nI u from nI_lt (a := 0) (b := u) (by omega) (by omega))]
  rw [if_pos (show nI u < 65536 from nI_lt (a := u) (b := 65536) (by omega) (by omega))]
  rw [if_pos (show nI u < 256 from nI_lt (a := u) (b := 256) (by omega) (by omega))]
  rw [if_pos (show nI u < 16 from nI_lt (a := u) (b := 16) (by omega) (by omega))]
  rw [if_pos (show nI u < 4 from nI_lt (a := u) (b := 4) (by omega) (by omega))]
  rw [show ush (nI (u)) 1 = nI (u / 2 ^ 1) from ushN (k := 1) (by omega) (by omega)]
  rw [show u / 2 ^ 1 = 0 from by omega]
  rfl
theorem rz_1 {u : Nat} (h1 : 2 ^ 1 ≤ u) (h2 : u < 2 ^ (1 + 1)) : f_Ref_zeros (nI u) = 30 := by
  unfold f_Ref_zeros
  rw [if_pos (show f_Ref_bit (nI u) 31 = 0 from zb0 31 (by omega) (by omega)), if_pos (show f_Ref_bit (nI u) 30 = 0 from zb0 30 (by omega) (by omega)), if_pos (show f_Ref_bit (nI u) 29 = 0 from zb0 29 (by omega) (by omega)), if_pos (show f_Ref_bit (nI u) 28 = 0 from zb0 28 (by omega) (by omega)), if_pos (show f_Ref_bit (nI u) 27 = 0 from zb0 27 (by omega) (by omega)), if_pos (show f_Ref_bit (nI u) 26 = 0 from zb0 26 (by omega) (by omega)), if_pos (show f_Ref_bit (nI u) 25 = 0 from zb0 25 (by omega) (by omega)), if_pos (show f_Ref_bit (nI u) 24 = 0 from zb0 24 (by omega) (by omega)), if_pos (show f_Ref_bit (nI u) 23 = 0 from zb0 23 (by omega) (by omega)), if_pos (show f_Ref_bit (nI u) 22 = 0 from zb0 22 (by omega) (by omega)), if_pos (show f_Ref_bit (nI u) 21 = 0 from zb0 21 (by omega) (by omega)), if_pos (show f_Ref_bit (nI u) 20 = 0 from zb0 20 (by omega) (by omega)), if_pos (show f_Ref_bit (nI u) 19 = 0 from zb0 19 (by omega) (by omega)), if_pos (show f_Ref_bit (nI u) 18 = 0 from zb0 18 (by omega) (by omega)), if_pos (show f_Ref_bit (nI u) 17 = 0 from zb0 17 (by omega) (by omega)), if_pos (show f_Ref_bit (nI u) 16 = 0 from zb0 16 (by omega) (by omega)), if_pos (show f_Ref_bit (nI u) 15 = 0 from zb0 15 (by omega) (by omega)), if_pos (show f_Ref_bit (nI u) 14 = 0 from zb0 14 (by omega) (by omega)), if_pos (show f_Ref_bit (nI u) 13 = 0 from zb0 13 (by omega) (by omega)), if_pos (show f_Ref_bit (nI u) 12 = 0 from zb0 12 (by omega) (by omega)), if_pos (show f_Ref_bit (nI u) 11 = 0 from zb0 11 (by omega) (by omega)), if_pos (show f_Ref_bit (nI u) 10 = 0 from zb0 10 (by omega) (by omega)), if_pos (show f_Ref_bit (nI u) 9 = 0 from zb0 9 (by omega) (by omega)), if_pos (show f_Ref_bit (nI u) 8 = 0 from zb0 8 (by omega) (by omega)), if_pos (show f_Ref_bit (nI u) 7 = 0 from zb0 7 (by omega) (by omega)), if_pos (show f_Ref_bit (nI u) 6 = 0 from zb0 6 (by omega) (by omega)), if_pos (show f_Ref_bit (nI u) 5 = 0 from zb0 5 (by omega) (by omega)), if_pos (show f_Ref_bit (nI u) 4 = 0 from zb0 4 (by omega) (by omega)), if_pos (show f_Ref_bit (nI u) 3 = 0 from zb0 3 (by omega) (by omega)), if_pos (show f_Ref_bit (nI u) 2 = 0 from zb0 2 (by omega) (by omega)), if_neg (show ¬ f_Ref_bit (nI u) 1 = 0 from zb1 1 (by omega) h1 h2)]
theorem nz_1 {u : Nat} (h1 : 2 ^ 1 ≤ u) (h2 : u < 2 ^ (1 + 1)) : f_Int_numberOfLeadingZeros (nI u) = 30 := by
  unfold f_Int_numberOfLeadingZeros
  rw [if_pos (show (0 : Int32) < nI u from nI_lt (a := 0) (b := u) (by omega) (by omega))]
  rw [if_pos (show nI u < 65536 from nI_lt (a := u) (b := 65536) (by omega) (by omega))]
  rw [if_pos (show nI u < 256 from nI_lt (a := u) (b := 256) (by omega) (by omega))]
  rw [if_pos (show nI u < 16 from nI_lt (a := u) (b := 16) (by omega) (by omega))]
  rw [if_pos (show nI u < 4 from nI_lt (a := u) (b := 4) (by omega) (by omega))]
  rw [show ush (nI (u)) 1 = nI (u / 2 ^ 1) from ushN (k := 1) (by omega) (by omega)]
  rw [show u / 2 ^ 1 = 1 from by omega]
  rfl
theorem rz_2 {u : Nat} (h1 : 2 ^ 2 ≤ u) (h2 : u < 2 ^ (2 + 1)) : f_Ref_zeros (nI u) = 29 := by
  unfold f_Ref_zeros
  rw [if_pos (show f_Ref_bit (nI u) 31 = 0 from zb0 31 (by omega) (by omega)), if_pos (show f_Ref_bit (nI u) 30 = 0 from zb0 30 (by omega) (by omega)), if_pos (show f_Ref_bit (nI u) 29 = 0 from zb0 29 (by omega) (by omega)), if_pos (show f_Ref_bit (nI u) 28 = 0 from zb0 28 (by omega) (by omega)), if_pos (show f_Ref_bit (nI u) 27 = 0 from zb0 27 (by omega) (by omega)), if_pos (show f_Ref_bit (nI u) 26 = 0 from zb0 26 (by omega) (by omega)), if_pos (show f_Ref_bit (nI u) 25 = 0 from zb0 25 (by omega) (by omega)), if_pos (show f_Ref_bit (nI u) 24 = 0 from zb0 24 (by omega) (by omega)), if_pos (show f_Ref_bit (nI u) 23 = 0 from zb0 23 (by omega) (by omega)), if_pos (show f_Ref_bit (nI u) 22 = 0 from zb0 22 (by omega) (by omega)), if_pos (show f_Ref_bit (nI u) 21 = 0 from zb0 21 (by omega) (by omega)), if_pos (show f_Ref_bit (nI u) 20 = 0 from zb0 20 (by omega) (by omega)), if_pos (show f_Ref_bit (nI u) 19 = 0 from zb0 19 (by omega) (by omega)), if_pos (show f_Ref_bit (nI u) 18 = 0 from zb0 18 (by omega) (by omega)), if_pos (show f_Ref_bit (nI u) 17 = 0 from zb0 17 (by omega) (by omega)), if_pos (show f_Ref_bit (nI u) 16 = 0 from zb0 16 (by omega) (by omega)), if_pos (show f_Ref_bit (nI u) 15 = 0 from zb0 15 (by omega) (by omega)), if_pos (show f_Ref_bit (nI u) 14 = 0 from zb0 14 (by omega) (by omega)), if_pos (show f_Ref_bit (nI u) 13 = 0 from zb0 13 (by omega) (by omega)), if_pos (show f_Ref_bit (nI u) 12 = 0 from zb0 12 (by omega) (by omega)), if_pos (show f_Ref_bit (nI u) 11 = 0 from zb0 11 (by omega) (by omega)), if_pos (show f_Ref_bit (nI u) 10 = 0 from zb0 10 (by omega) (by omega)), if_pos (show f_Ref_bit (nI u) 9 = 0 from zb0 9 (by omega) (by omega)), if_pos (show f_Ref_bit (nI u) 8 = 0 from zb0 8 (by omega) (by omega)), if_pos (show f_Ref_bit (nI u) 7 = 0 from zb0 7 (by omega) (by omega)), if_pos (show f_Ref_bit (nI u) 6 = 0 from zb0 6 (by omega) (by omega)), if_pos (show f_Ref_bit (nI u) 5 = 0 from zb0 5 (by omega) (by omega)), if_pos (show f_Ref_bit (nI u) 4 = 0 from zb0 4 (by omega) (by omega)), if_pos (show f_Ref_bit (nI u) 3 = 0 from zb0 3 (by omega) (by omega)), if_neg (show ¬ f_Ref_bit (nI u) 2 = 0 from zb1 2 (by omega) h1 h2)]
theorem nz_2 {u : Nat} (h1 : 2 ^ 2 ≤ u) (h2 : u < 2 ^ (2 + 1)) : f_Int_numberOfLeadingZeros (nI u) = 29 := by
  unfold f_Int_numberOfLeadingZeros
  rw [if_pos (show (0 : Int32) < nI u from nI_lt (a := 0) (b := u) (by omega) (by omega))]
  rw [if_pos (show nI u < 65536 from nI_lt (a := u) (b := 65536) (by omega) (by omega))]
  rw [if_pos (show nI u < 256 from nI_lt (a := u) (b := 256) (by omega) (by omega))]
  rw [if_pos (show nI u < 16 from nI_lt (a := u) (b := 16) (by omega) (by omega))]
  rw [if_neg (show ¬ nI u < 4 from nI_nlt (a := u) (b := 4) (by omega) (by omega))]
  rw [show ush (nI (u)) 2 = nI (u / 2 ^ 2) from ushN (k := 2) (by omega) (by omega)]
  rw [show ush (nI ((u / 2 ^ 2))) 1 = nI ((u / 2 ^ 2) / 2 ^ 1) from ushN (k := 1) (by omega) (by omega)]
  rw [show (u / 2 ^ 2) / 2 ^ 1 = 0 from by omega]
  rfl
theorem rz_3 {u : Nat} (h1 : 2 ^ 3 ≤ u) (h2 : u < 2 ^ (3 + 1)) : f_Ref_zeros (nI u) = 28 := by
  unfold f_Ref_zeros
  rw [if_pos (show f_Ref_bit (nI u) 31 = 0 from zb0 31 (by omega) (by omega)), if_pos (show f_Ref_bit (nI u) 30 = 0 from zb0 30 (by omega) (by omega)), if_pos (show f_Ref_bit (nI u) 29 = 0 from zb0 29 (by omega) (by omega)), if_pos (show f_Ref_bit (nI u) 28 = 0 from zb0 28 (by omega) (by omega)), if_pos (show f_Ref_bit (nI u) 27 = 0 from zb0 27 (by omega) (by omega)), if_pos (show f_Ref_bit (nI u) 26 = 0 from zb0 26 (by omega) (by omega)), if_pos (show f_Ref_bit (nI u) 25 = 0 from zb0 25 (by omega) (by omega)), if_pos (show f_Ref_bit (nI u) 24 = 0 from zb0 24 (by omega) (by omega)), if_pos (show f_Ref_bit (nI u) 23 = 0 from zb0 23 (by omega) (by omega)), if_pos (show f_Ref_bit (nI u) 22 = 0 from zb0 22 (by omega) (by omega)), if_pos (show f_Ref_bit (nI u) 21 = 0 from zb0 21 (by omega) (by omega)), if_pos (show f_Ref_bit (nI u) 20 = 0 from zb0 20 (by omega) (by omega)), if_pos (show f_Ref_bit (nI u) 19 = 0 from zb0 19 (by omega) (by omega)), if_pos (show f_Ref_bit (nI u) 18 = 0 from zb0 18 (by omega) (by omega)), if_pos (show f_Ref_bit (nI u) 17 = 0 from zb0 17 (by omega) (by omega)), if_pos (show f_Ref_bit (nI u) 16 = 0 from zb0 16 (by omega) (by omega)), if_pos (show f_Ref_bit (nI u) 15 = 0 from zb0 15 (by omega) (by omega)), if_pos (show f_Ref_bit (nI u) 14 = 0 from zb0 14 (by omega) (by omega)), if_pos (show f_Ref_bit (nI u) 13 = 0 from zb0 13 (by omega) (by omega)), if_pos (show f_Ref_bit (nI u) 12 = 0 from zb0 12 (by omega) (by omega)), if_pos (show f_Ref_bit (nI u) 11 = 0 from zb0 11 (by omega) (by omega)), if_pos (show f_Ref_bit (nI u) 10 = 0 from zb0 10 (by omega) (by omega)), if_pos (show f_Ref_bit (nI u) 9 = 0 from zb0 9 (by omega) (by omega)), if_pos (show f_Ref_bit (nI u) 8 = 0 from zb0 8 (by omega) (by omega)), if_pos (show f_Ref_bit (nI u) 7 = 0 from zb0 7 (by omega) (by omega)), if_pos (show f_Ref_bit (nI u) 6 = 0 from zb0 6 (by omega) (by omega)), if_pos (show f_Ref_bit (nI u) 5 = 0 from zb0 5 (by omega) (by omega)), if_pos (show f_Ref_bit (nI u) 4 = 0 from zb0 4 (by omega) (by omega)), if_neg (show ¬ f_Ref_bit (nI u) 3 = 0 from zb1 3 (by omega) h1 h2)]
theorem nz_3 {u : Nat} (h1 : 2 ^ 3 ≤ u) (h2 : u < 2 ^ (3 + 1)) : f_Int_numberOfLeadingZeros (nI u) = 28 := by
  unfold f_Int_numberOfLeadingZeros
  rw [if_pos (show (0 : Int32) < nI u from nI_lt (a := 0) (b := u) (by omega) (by omega))]
  rw [if_pos (show nI u < 65536 from nI_lt (a := u) (b := 65536) (by omega) (by omega))]
  rw [if_pos (show nI u < 256 from nI_lt (a := u) (b := 256) (by omega) (by omega))]
  rw [if_pos (show nI u < 16 from nI_lt (a := u) (b := 16) (by omega) (by omega))]
  rw [if_neg (show ¬ nI u < 4 from nI_nlt (a := u) (b := 4) (by omega) (by omega))]
  rw [show ush (nI (u)) 2 = nI (u / 2 ^ 2) from ushN (k := 2) (by omega) (by omega)]
  rw [show ush (nI ((u / 2 ^ 2))) 1 = nI ((u / 2 ^ 2) / 2 ^ 1) from ushN (k := 1) (by omega) (by omega)]
  rw [show (u / 2 ^ 2) / 2 ^ 1 = 1 from by omega]
  rfl
theorem rz_4 {u : Nat} (h1 : 2 ^ 4 ≤ u) (h2 : u < 2 ^ (4 + 1)) : f_Ref_zeros (nI u) = 27 := by
  unfold f_Ref_zeros
  rw [if_pos (show f_Ref_bit (nI u) 31 = 0 from zb0 31 (by omega) (by omega)), if_pos (show f_Ref_bit (nI u) 30 = 0 from zb0 30 (by omega) (by omega)), if_pos (show f_Ref_bit (nI u) 29 = 0 from zb0 29 (by omega) (by omega)), if_pos (show f_Ref_bit (nI u) 28 = 0 from zb0 28 (by omega) (by omega)), if_pos (show f_Ref_bit (nI u) 27 = 0 from zb0 27 (by omega) (by omega)), if_pos (show f_Ref_bit (nI u) 26 = 0 from zb0 26 (by omega) (by omega)), if_pos (show f_Ref_bit (nI u) 25 = 0 from zb0 25 (by omega) (by omega)), if_pos (show f_Ref_bit (nI u) 24 = 0 from zb0 24 (by omega) (by omega)), if_pos (show f_Ref_bit (nI u) 23 = 0 from zb0 23 (by omega) (by omega)), if_pos (show f_Ref_bit (nI u) 22 = 0 from zb0 22 (by omega) (by omega)), if_pos (show f_Ref_bit (nI u) 21 = 0 from zb0 21 (by omega) (by omega)), if_pos (show f_Ref_bit (nI u) 20 = 0 from zb0 20 (by omega) (by omega)), if_pos (show f_Ref_bit (nI u) 19 = 0 from zb0 19 (by omega) (by omega)), if_pos (show f_Ref_bit (nI u) 18 = 0 from zb0 18 (by omega) (by omega)), if_pos (show f_Ref_bit (nI u) 17 = 0 from zb0 17 (by omega) (by omega)), if_pos (show f_Ref_bit (nI u) 16 = 0 from zb0 16 (by omega) (by omega)), if_pos (show f_Ref_bit (nI u) 15 = 0 from zb0 15 (by omega) (by omega)), if_pos (show f_Ref_bit (nI u) 14 = 0 from zb0 14 (by omega) (by omega)), if_pos (show f_Ref_bit (nI u) 13 = 0 from zb0 13 (by omega) (by omega)), if_pos (show f_Ref_bit (nI u) 12 = 0 from zb0 12 (by omega) (by omega)), if_pos (show f_Ref_bit (nI u) 11 = 0 from zb0 11 (by omega) (by omega)), if_pos (show f_Ref_bit (nI u) 10 = 0 from zb0 10 (by omega) (by omega)), if_pos (show f_Ref_bit (nI u) 9 = 0 from zb0 9 (by omega) (by omega)), if_pos (show f_Ref_bit (nI u) 8 = 0 from zb0 8 (by omega) (by omega)), if_pos (show f_Ref_bit (nI u) 7 = 0 from zb0 7 (by omega) (by omega)), if_pos (show f_Ref_bit (nI u) 6 = 0 from zb0 6 (by omega) (by omega)), if_pos (show f_Ref_bit (nI u) 5 = 0 from zb0 5 (by omega) (by omega)), if_neg (show ¬ f_Ref_bit (nI u) 4 = 0 from zb1 4 (by omega) h1 h2)]
theorem nz_4 {u : Nat} (h1 : 2 ^ 4 ≤ u) (h2 : u < 2 ^ (4 + 1)) : f_Int_numberOfLeadingZeros (nI u) = 27 := by
  unfold f_Int_numberOfLeadingZeros
  rw [if_pos (show (0 : Int32) < nI u from nI_lt (a := 0) (b := u) (by omega) (by omega))]
  rw [if_pos (show nI u < 65536 from nI_lt (a := u) (b := 65536) (by omega) (by omega))]
  rw [if_pos (show nI u < 256 from nI_lt (a := u) (b := 256) (by omega) (by omega))]
  rw [if_neg (show ¬ nI u < 16 from nI_nlt (a := u) (b := 16) (by omega) (by omega))]
  rw [show ush (nI (u)) 4 = nI (u / 2 ^ 4) from ushN (k := 4) (by omega) (by omega)]
  rw [if_pos (show nI (u / 2 ^ 4) < 4 from nI_lt (a := (u / 2 ^ 4)) (b := 4) (by omega) (by omega))]
  rw [show ush (nI ((u / 2 ^ 4))) 1 = nI ((u / 2 ^ 4) / 2 ^ 1) from ushN (k := 1) (by omega) (by omega)]
  rw [show (u / 2 ^ 4) / 2 ^ 1 = 0 from by omega]
  rfl
theorem rz_5 {u : Nat} (h1 : 2 ^ 5 ≤ u) (h2 : u < 2 ^ (5 + 1)) : f_Ref_zeros (nI u) = 26 := by
  unfold f_Ref_zeros
  rw [if_pos (show f_Ref_bit (nI u) 31 = 0 from zb0 31 (by omega) (by omega)), if_pos (show f_Ref_bit (nI u) 30 = 0 from zb0 30 (by omega) (by omega)), if_pos (show f_Ref_bit (nI u) 29 = 0 from zb0 29 (by omega) (by omega)), if_pos (show f_Ref_bit (nI u) 28 = 0 from zb0 28 (by omega) (by omega)), if_pos (show f_Ref_bit (nI u) 27 = 0 from zb0 27 (by omega) (by omega)), if_pos (show f_Ref_bit (nI u) 26 = 0 from zb0 26 (by omega) (by omega)), if_pos (show f_Ref_bit (nI u) 25 = 0 from zb0 25 (by omega) (by omega)), if_pos (show f_Ref_bit (nI u) 24 = 0 from zb0 24 (by omega) (by omega)), if_pos (show f_Ref_bit (nI u) 23 = 0 from zb0 23 (by omega) (by omega)), if_pos (show f_Ref_bit (nI u) 22 = 0 from zb0 22 (by omega) (by omega)), if_pos (show f_Ref_bit (nI u) 21 = 0 from zb0 21 (by omega) (by omega)), if_pos (show f_Ref_bit (nI u) 20 = 0 from zb0 20 (by omega) (by omega)), if_pos (show f_Ref_bit (nI u) 19 = 0 from zb0 19 (by omega) (by omega)), if_pos (show f_Ref_bit (nI u) 18 = 0 from zb0 18 (by omega) (by omega)), if_pos (show f_Ref_bit (nI u) 17 = 0 from zb0 17 (by omega) (by omega)), if_pos (show f_Ref_bit (nI u) 16 = 0 from zb0 16 (by omega) (by omega)), if_pos (show f_Ref_bit (nI u) 15 = 0 from zb0 15 (by omega) (by omega)), if_pos (show f_Ref_bit (nI u) 14 = 0 from zb0 14 (by omega) (by omega)), if_pos (show f_Ref_bit (nI u) 13 = 0 from zb0 13 (by omega) (by omega)), if_pos (show f_Ref_bit (nI u) 12 = 0 from zb0 12 (by omega) (by omega)), if_pos (show f_Ref_bit (nI u) 11 = 0 from zb0 11 (by omega) (by omega)), if_pos (show f_Ref_bit (nI u) 10 = 0 from zb0 10 (by omega) (by omega)), if_pos (show f_Ref_bit (nI u) 9 = 0 from zb0 9 (by omega) (by omega)), if_pos (show f_Ref_bit (nI u) 8 = 0 from zb0 8 (by omega) (by omega)), if_pos (show f_Ref_bit (nI u) 7 = 0 from zb0 7 (by omega) (by omega)), if_pos (show f_Ref_bit (nI u) 6 = 0 from zb0 6 (by omega) (by omega)), if_neg (show ¬ f_Ref_bit (nI u) 5 = 0 from zb1 5 (by omega) h1 h2)]
theorem nz_5 {u : Nat} (h1 : 2 ^ 5 ≤ u) (h2 : u < 2 ^ (5 + 1)) : f_Int_numberOfLeadingZeros (nI u) = 26 := by
  unfold f_Int_numberOfLeadingZeros
  rw [if_pos (show (0 : Int32) < nI u from nI_lt (a := 0) (b := u) (by omega) (by omega))]
  rw [if_pos (show nI u < 65536 from nI_lt (a := u) (b := 65536) (by omega) (by omega))]
  rw [if_pos (show nI u < 256 from nI_lt (a := u) (b := 256) (by omega) (by omega))]
  rw [if_neg (show ¬ nI u < 16 from nI_nlt (a := u) (b := 16) (by omega) (by omega))]
  rw [show ush (nI (u)) 4 = nI (u / 2 ^ 4) from ushN (k := 4) (by omega) (by omega)]
  rw [if_pos (show nI (u / 2 ^ 4) < 4 from nI_lt (a := (u / 2 ^ 4)) (b := 4) (by omega) (by omega))]
  rw [show ush (nI ((u / 2 ^ 4))) 1 = nI ((u / 2 ^ 4) / 2 ^ 1) from ushN (k := 1) (by omega) (by omega)]
  rw [show (u / 2 ^ 4) / 2 ^ 1 = 1 from by omega]
  rfl
theorem rz_6 {u : Nat} (h1 : 2 ^ 6 ≤ u) (h2 : u < 2 ^ (6 + 1)) : f_Ref_zeros (nI u) = 25 := by
  unfold f_Ref_zeros
  rw [if_pos (show f_Ref_bit (nI u) 31 = 0 from zb0 31 (by omega) (by omega)), if_pos (show f_Ref_bit (nI u) 30 = 0 from zb0 30 (by omega) (by omega)), if_pos (show f_Ref_bit (nI u) 29 = 0 from zb0 29 (by omega) (by omega)), if_pos (show f_Ref_bit (nI u) 28 = 0 from zb0 28 (by omega) (by omega)), if_pos (show f_Ref_bit (nI u) 27 = 0 from zb0 27 (by omega) (by omega)), if_pos (show f_Ref_bit (nI u) 26 = 0 from zb0 26 (by omega) (by omega)), if_pos (show f_Ref_bit (nI u) 25 = 0 from zb0 25 (by omega) (by omega)), if_pos (show f_Ref_bit (nI u) 24 = 0 from zb0 24 (by omega) (by omega)), if_pos (show f_Ref_bit (nI u) 23 = 0 from zb0 23 (by omega) (by omega)), if_pos (show f_Ref_bit (nI u) 22 = 0 from zb0 22 (by omega) (by omega)), if_pos (show f_Ref_bit (nI u) 21 = 0 from zb0 21 (by omega) (by omega)), if_pos (show f_Ref_bit (nI u) 20 = 0 from zb0 20 (by omega) (by omega)), if_pos (show f_Ref_bit (nI u) 19 = 0 from zb0 19 (by omega) (by omega)), if_pos (show f_Ref_bit (nI u) 18 = 0 from zb0 18 (by omega) (by omega)), if_pos (show f_Ref_bit (nI u) 17 = 0 from zb0 17 (by omega) (by omega)), if_pos (show f_Ref_bit (nI u) 16 = 0 from zb0 16 (by omega) (by omega)), if_pos (show f_Ref_bit (nI u) 15 = 0 from zb0 15 (by omega) (by omega)), if_pos (show f_Ref_bit (nI u) 14 = 0 from zb0 14 (by omega) (by omega)), if_pos (show f_Ref_bit (nI u) 13 = 0 from zb0 13 (by omega) (by omega)), if_pos (show f_Ref_bit (nI u) 12 = 0 from zb0 12 (by omega) (by omega)), if_pos (show f_Ref_bit (nI u) 11 = 0 from zb0 11 (by omega) (by omega)), if_pos (show f_Ref_bit (nI u) 10 = 0 from zb0 10 (by omega) (by omega)), if_pos (show f_Ref_bit (nI u) 9 = 0 from zb0 9 (by omega) (by omega)), if_pos (show f_Ref_bit (nI u) 8 = 0 from zb0 8 (by omega) (by omega)), if_pos (show f_Ref_bit (nI u) 7 = 0 from zb0 7 (by omega) (by omega)), if_neg (show ¬ f_Ref_bit (nI u) 6 = 0 from zb1 6 (by omega) h1 h2)]
theorem nz_6 {u : Nat} (h1 : 2 ^ 6 ≤ u) (h2 : u < 2 ^ (6 + 1)) : f_Int_numberOfLeadingZeros (nI u) = 25 := by
  unfold f_Int_numberOfLeadingZeros
  rw [if_pos (show (0 : Int32) < nI u from nI_lt (a := 0) (b := u) (by omega) (by omega))]
  rw [if_pos (show nI u < 65536 from nI_lt (a := u) (b := 65536) (by omega) (by omega))]
  rw [if_pos (show nI u < 256 from nI_lt (a := u) (b := 256) (by omega) (by omega))]
  rw [if_neg (show ¬ nI u < 16 from nI_nlt (a := u) (b := 16) (by omega) (by omega))]
  rw [show ush (nI (u)) 4 = nI (u / 2 ^ 4) from ushN (k := 4) (by omega) (by omega)]
  rw [if_neg (show ¬ nI (u / 2 ^ 4) < 4 from nI_nlt (a := (u / 2 ^ 4)) (b := 4) (by omega) (by omega))]
  rw [show ush (nI ((u / 2 ^ 4))) 2 = nI ((u / 2 ^ 4) / 2 ^ 2) from ushN (k := 2) (by omega) (by omega)]
  rw [show ush (nI (((u / 2 ^ 4) / 2 ^ 2))) 1 = nI (((u / 2 ^ 4) / 2 ^ 2) / 2 ^ 1) from ushN (k := 1) (by omega) (by omega)]
  rw [show ((u / 2 ^ 4) / 2 ^ 2) / 2 ^ 1 = 0 from by omega]
  rfl
theorem rz_7 {u : Nat} (h1 : 2 ^ 7 ≤ u) (h2 : u < 2 ^ (7 + 1)) : f_Ref_zeros (nI u) = 24 := by
  unfold f_Ref_zeros
  rw [if_pos (show f_Ref_bit (nI u) 31 = 0 from zb0 31 (by omega) (by omega)), if_pos (show f_Ref_bit (nI u) 30 = 0 from zb0 30 (by omega) (by omega)), if_pos (show f_Ref_bit (nI u) 29 = 0 from zb0 29 (by omega) (by omega)), if_pos (show f_Ref_bit (nI u) 28 = 0 from zb0 28 (by omega) (by omega)), if_pos (show f_Ref_bit (nI u) 27 = 0 from zb0 27 (by omega) (by omega)), if_pos (show f_Ref_bit (nI u) 26 = 0 from zb0 26 (by omega) (by omega)), if_pos (show f_Ref_bit (nI u) 25 = 0 from zb0 25 (by omega) (by omega)), if_pos (show f_Ref_bit (nI u) 24 = 0 from zb0 24 (by omega) (by omega)), if_pos (show f_Ref_bit (nI u) 23 = 0 from zb0 23 (by omega) (by omega)), if_pos (show f_Ref_bit (nI u) 22 = 0 from zb0 22 (by omega) (by omega)), if_pos (show f_Ref_bit (nI u) 21 = 0 from zb0 21 (by omega) (by omega)), if_pos (show f_Ref_bit (nI u) 20 = 0 from zb0 20 (by omega) (by omega)), if_pos (show f_Ref_bit (nI u) 19 = 0 from zb0 19 (by omega) (by omega)), if_pos (show f_Ref_bit (nI u) 18 = 0 from zb0 18 (by omega) (by omega)), if_pos (show f_Ref_bit (nI u) 17 = 0 from zb0 17 (by omega) (by omega)), if_pos (show f_Ref_bit (nI u) 16 = 0 from zb0 16 (by omega) (by omega)), if_pos (show f_Ref_bit (nI u) 15 = 0 from zb0 15 (by omega) (by omega)), if_pos (show f_Ref_bit (nI u) 14 = 0 from zb0 14 (by omega) (by omega)), if_pos (show f_Ref_bit (nI u) 13 = 0 from zb0 13 (by omega) (by omega)), if_pos (show f_Ref_bit (nI u) 12 = 0 from zb0 12 (by omega) (by omega)), if_pos (show f_Ref_bit (nI u) 11 = 0 from zb0 11 (by omega) (by omega)), if_pos (show f_Ref_bit (nI u) 10 = 0 from zb0 10 (by omega) (by omega)), if_pos (show f_Ref_bit (nI u) 9 = 0 from zb0 9 (by omega) (by omega)), if_pos (show f_Ref_bit (nI u) 8 = 0 from zb0 8 (by omega) (by omega)), if_neg (show ¬ f_Ref_bit (nI u) 7 = 0 from zb1 7 (by omega) h1 h2)]
theorem nz_7 {u : Nat} (h1 : 2 ^ 7 ≤ u) (h2 : u < 2 ^ (7 + 1)) : f_Int_numberOfLeadingZeros (nI u) = 24 := by
  unfold f_Int_numberOfLeadingZeros
  rw [if_pos (show (0 : Int32) < nI u from nI_lt (a := 0) (b := u) (by omega) (by omega))]
  rw [if_pos (show nI u < 65536 from nI_lt (a := u) (b := 65536) (by omega) (by omega))]
  rw [if_pos (show nI u < 256 from nI_lt (a := u) (b := 256) (by omega) (by omega))]
  rw [if_neg (show ¬ nI u < 16 from nI_nlt (a := u) (b := 16) (by omega) (by omega))]
  rw [show ush (nI (u)) 4 = nI (u / 2 ^ 4) from ushN (k := 4) (by omega) (by omega)]
  rw [if_neg (show ¬ nI (u / 2 ^ 4) < 4 from nI_nlt (a := (u / 2 ^ 4)) (b := 4) (by omega) (by omega))]
  rw [show ush (nI ((u / 2 ^ 4))) 2 = nI ((u / 2 ^ 4) / 2 ^ 2) from ushN (k := 2) (by omega) (by omega)]
  rw [show ush (nI (((u / 2 ^ 4) / 2 ^ 2))) 1 = nI (((u / 2 ^ 4) / 2 ^ 2) / 2 ^ 1) from ushN (k := 1) (by omega) (by omega)]
  rw [show ((u / 2 ^ 4) / 2 ^ 2) / 2 ^ 1 = 1 from by omega]
  rfl
theorem rz_8 {u : Nat} (h1 : 2 ^ 8 ≤ u) (h2 : u < 2 ^ (8 + 1)) : f_Ref_zeros (nI u) = 23 := by
  unfold f_Ref_zeros
  rw [if_pos (show f_Ref_bit (nI u) 31 = 0 from zb0 31 (by omega) (by omega)), if_pos (show f_Ref_bit (nI u) 30 = 0 from zb0 30 (by omega) (by omega)), if_pos (show f_Ref_bit (nI u) 29 = 0 from zb0 29 (by omega) (by omega)), if_pos (show f_Ref_bit (nI u) 28 = 0 from zb0 28 (by omega) (by omega)), if_pos (show f_Ref_bit (nI u) 27 = 0 from zb0 27 (by omega) (by omega)), if_pos (show f_Ref_bit (nI u) 26 = 0 from zb0 26 (by omega) (by omega)), if_pos (show f_Ref_bit (nI u) 25 = 0 from zb0 25 (by omega) (by omega)), if_pos (show f_Ref_bit (nI u) 24 = 0 from zb0 24 (by omega) (by omega)), if_pos (show f_Ref_bit (nI u) 23 = 0 from zb0 23 (by omega) (by omega)), if_pos (show f_Ref_bit (nI u) 22 = 0 from zb0 22 (by omega) (by omega)), if_pos (show f_Ref_bit (nI u) 21 = 0 from zb0 21 (by omega) (by omega)), if_pos (show f_Ref_bit (nI u) 20 = 0 from zb0 20 (by omega) (by omega)), if_pos (show f_Ref_bit (nI u) 19 = 0 from zb0 19 (by omega) (by omega)), if_pos (show f_Ref_bit (nI u) 18 = 0 from zb0 18 (by omega) (by omega)), if_pos (show f_Ref_bit (nI u) 17 = 0 from zb0 17 (by omega) (by omega)), if_pos (show f_Ref_bit (nI u) 16 = 0 from zb0 16 (by omega) (by omega)), if_pos (show f_Ref_bit (nI u) 15 = 0 from zb0 15 (by omega) (by omega)), if_pos (show f_Ref_bit (nI u) 14 = 0 from zb0 14 (by omega) (by omega)), if_pos (show f_Ref_bit (nI u) 13 = 0 from zb0 13 (by omega) (by omega)), if_pos (show f_Ref_bit (nI u) 12 = 0 from zb0 12 (by omega) (by omega)), if_pos (show f_Ref_bit (nI u) 11 = 0 from zb0 11 (by omega) (by omega)), if_pos (show f_Ref_bit (nI u) 10 = 0 from zb0 10 (by omega) (by omega)), if_pos (show f_Ref_bit (nI u) 9 = 0 from zb0 9 (by omega) (by omega)), if_neg (show ¬ f_Ref_bit (nI u) 8 = 0 from zb1 8 (by omega) h1 h2)]
theorem nz_8 {u : Nat} (h1 : 2 ^ 8 ≤ u) (h2 : u < 2 ^ (8 + 1)) : f_Int_numberOfLeadingZeros (nI u) = 23 := by
  unfold f_Int_numberOfLeadingZeros
  rw [if_pos (show (0 : Int32) < nI u from nI_lt (a := 0) (b := u) (by omega) (by omega))]
  rw [if_pos (show nI u < 65536 from nI_lt (a := u) (b := 65536) (by omega) (by omega))]
  rw [if_neg (show ¬ nI u < 256 from nI_nlt (a := u) (b := 256) (by omega) (by omega))]
  rw [show ush (nI (u)) 8 = nI (u / 2 ^ 8) from ushN (k := 8) (by omega) (by omega)]
  rw [if_pos (show nI (u / 2 ^ 8) < 16 from nI_lt (a := (u / 2 ^ 8)) (b := 16) (by omega) (by omega))]
  rw [if_pos (show nI (u / 2 ^ 8) < 4 from nI_lt (a := (u / 2 ^ 8)) (b := 4) (by omega) (by omega))]
  rw [show ush (nI ((u / 2 ^ 8))) 1 = nI ((u / 2 ^ 8) / 2 ^ 1) from ushN (k := 1) (by omega) (by omega)]
  rw [show (u / 2 ^ 8) / 2 ^ 1 = 0 from by omega]
  rfl
theorem rz_9 {u : Nat} (h1 : 2 ^ 9 ≤ u) (h2 : u < 2 ^ (9 + 1)) : f_Ref_zeros (nI u) = 22 := by
  unfold f_Ref_zeros
  rw [if_pos (show f_Ref_bit (nI u) 31 = 0 from zb0 31 (by omega) (by omega)), if_pos (show f_Ref_bit (nI u) 30 = 0 from zb0 30 (by omega) (by omega)), if_pos (show f_Ref_bit (nI u) 29 = 0 from zb0 29 (by omega) (by omega)), if_pos (show f_Ref_bit (nI u) 28 = 0 from zb0 28 (by omega) (by omega)), if_pos (show f_Ref_bit (nI u) 27 = 0 from zb0 27 (by omega) (by omega)), if_pos (show f_Ref_bit (nI u) 26 = 0 from zb0 26 (by omega) (by omega)), if_pos (show f_Ref_bit (nI u) 25 = 0 from zb0 25 (by omega) (by omega)), if_pos (show f_Ref_bit (nI u) 24 = 0 from zb0 24 (by omega) (by omega)), if_pos (show f_Ref_bit (nI u) 23 = 0 from zb0 23 (by omega) (by omega)), if_pos (show f_Ref_bit (nI u) 22 = 0 from zb0 22 (by omega) (by omega)), if_pos (show f_Ref_bit (nI u) 21 = 0 from zb0 21 (by omega) (by omega)), if_pos (show f_Ref_bit (nI u) 20 = 0 from zb0 20 (by omega) (by omega)), if_pos (show f_Ref_bit (nI u) 19 = 0 from zb0 19 (by omega) (by omega)), if_pos (show f_Ref_bit (nI u) 18 = 0 from zb0 18 (by omega) (by omega)), if_pos (show f_Ref_bit (nI u) 17 = 0 from zb0 17 (by omega) (by omega)), if_pos (show f_Ref_bit (nI u) 16 = 0 from zb0 16 (by omega) (by omega)), if_pos (show f_Ref_bit (nI u) 15 = 0 from zb0 15 (by omega) (by omega)), if_pos (show f_Ref_bit (nI u) 14 = 0 from zb0 14 (by omega) (by omega)), if_pos (show f_Ref_bit (nI u) 13 = 0 from zb0 13 (by omega) (by omega)), if_pos (show f_Ref_bit (nI u) 12 = 0 from zb0 12 (by omega) (by omega)), if_pos (show f_Ref_bit (nI u) 11 = 0 from zb0 11 (by omega) (by omega)), if_pos (show f_Ref_bit (nI u) 10 = 0 from zb0 10 (by omega) (by omega)), if_neg (show ¬ f_Ref_bit (nI u) 9 = 0 from zb1 9 (by omega) h1 h2)]
theorem nz_9 {u : Nat} (h1 : 2 ^ 9 ≤ u) (h2 : u < 2 ^ (9 + 1)) : f_Int_numberOfLeadingZeros (nI u) = 22 := by
  unfold f_Int_numberOfLeadingZeros
  rw [if_pos (show (0 : Int32) < nI u from nI_lt (a := 0) (b := u) (by omega) (by omega))]
  rw [if_pos (show nI u < 65536 from nI_lt (a := u) (b := 65536) (by omega) (by omega))]
  rw [if_neg (show ¬ nI u < 256 from nI_nlt (a := u) (b := 256) (by omega) (by omega))]
  rw [show ush (nI (u)) 8 = nI (u / 2 ^ 8) from ushN (k := 8) (by omega) (by omega)]
  rw [if_pos (show nI (u / 2 ^ 8) < 16 from nI_lt (a := (u / 2 ^ 8)) (b := 16) (by omega) (by omega))]
  rw [if_pos (show nI (u / 2 ^ 8) < 4 from nI_lt (a := (u / 2 ^ 8)) (b := 4) (by omega) (by omega))]
  rw [show ush (nI ((u / 2 ^ 8))) 1 = nI ((u / 2 ^ 8) / 2 ^ 1) from ushN (k := 1) (by omega) (by omega)]
  rw [show (u / 2 ^ 8) / 2 ^ 1 = 1 from by omega]
  rfl
theorem rz_10 {u : Nat} (h1 : 2 ^ 10 ≤ u) (h2 : u < 2 ^ (10 + 1)) : f_Ref_zeros (nI u) = 21 := by
  unfold f_Ref_zeros
  rw [if_pos (show f_Ref_bit (nI u) 31 = 0 from zb0 31 (by omega) (by omega)), if_pos (show f_Ref_bit (nI u) 30 = 0 from zb0 30 (by omega) (by omega)), if_pos (show f_Ref_bit (nI u) 29 = 0 from zb0 29 (by omega) (by omega)), if_pos (show f_Ref_bit (nI u) 28 = 0 from zb0 28 (by omega) (by omega)), if_pos (show f_Ref_bit (nI u) 27 = 0 from zb0 27 (by omega) (by omega)), if_pos (show f_Ref_bit (nI u) 26 = 0 from zb0 26 (by omega) (by omega)), if_pos (show f_Ref_bit (nI u) 25 = 0 from zb0 25 (by omega) (by omega)), if_pos (show f_Ref_bit (nI u) 24 = 0 from zb0 24 (by omega) (by omega)), if_pos (show f_Ref_bit (nI u) 23 = 0 from zb0 23 (by omega) (by omega)), if_pos (show f_Ref_bit (nI u) 22 = 0 from zb0 22 (by omega) (by omega)), if_pos (show f_Ref_bit (nI u) 21 = 0 from zb0 21 (by omega) (by omega)), if_pos (show f_Ref_bit (nI u) 20 = 0 from zb0 20 (by omega) (by omega)), if_pos (show f_Ref_bit (nI u) 19 = 0 from zb0 19 (by omega) (by omega)), if_pos (show f_Ref_bit (nI u) 18 = 0 from zb0 18 (by omega) (by omega)), if_pos (show f_Ref_bit (nI u) 17 = 0 from zb0 17 (by omega) (by omega)), if_pos (show f_Ref_bit (nI u) 16 = 0 from zb0 16 (by omega) (by omega)), if_pos (show f_Ref_bit (nI u) 15 = 0 from zb0 15 (by omega) (by omega)), if_pos (show f_Ref_bit (nI u) 14 = 0 from zb0 14 (by omega) (by omega)), if_pos (show f_Ref_bit (nI u) 13 = 0 from zb0 13 (by omega) (by omega)), if_pos (show f_Ref_bit (nI u) 12 = 0 from zb0 12 (by omega) (by omega)), if_pos (show f_Ref_bit (nI u) 11 = 0 from zb0 11 (by omega) (by omega)), if_neg (show ¬ f_Ref_bit (nI u) 10 = 0 from zb1 10 (by omega) h1 h2)]
theorem nz_10 {u : Nat} (h1 : 2 ^ 10 ≤ u) (h2 : u < 2 ^ (10 + 1)) : f_Int_numberOfLeadingZeros (nI u) = 21 := by
  unfold f_Int_numberOfLeadingZeros
  rw [if_pos (show (0 : Int32) < nI u from nI_lt (a := 0) (b := u) (by omega) (by omega))]
  rw [if_pos (show nI u < 65536 from nI_lt (a := u) (b := 65536) (by omega) (by omega))]
  rw [if_neg (show ¬ nI u < 256 from nI_nlt (a := u) (b := 256) (by omega) (by omega))]
  rw [show ush (nI (u)) 8 = nI (u / 2 ^ 8) from ushN (k := 8) (by omega) (by omega)]
  rw [if_pos (show nI (u / 2 ^ 8) < 16 from nI_lt (a := (u / 2 ^ 8)) (b := 16) (by omega) (by omega))]
  rw [if_neg (show ¬ nI (u / 2 ^ 8) < 4 from nI_nlt (a := (u / 2 ^ 8)) (b := 4) (by omega) (by omega))]
  rw [show ush (nI ((u / 2 ^ 8))) 2 = nI ((u / 2 ^ 8) / 2 ^ 2) from ushN (k := 2) (by omega) (by omega)]
  rw [show ush (nI (((u / 2 ^ 8) / 2 ^ 2))) 1 = nI (((u / 2 ^ 8) / 2 ^ 2) / 2 ^ 1) from ushN (k := 1) (by omega) (by omega)]
  rw [show ((u / 2 ^ 8) / 2 ^ 2) / 2 ^ 1 = 0 from by omega]
  rfl
theorem rz_11 {u : Nat} (h1 : 2 ^ 11 ≤ u) (h2 : u < 2 ^ (11 + 1)) : f_Ref_zeros (nI u) = 20 := by
  unfold f_Ref_zeros
  rw [if_pos (show f_Ref_bit (nI u) 31 = 0 from zb0 31 (by omega) (by omega)), if_pos (show f_Ref_bit (nI u) 30 = 0 from zb0 30 (by omega) (by omega)), if_pos (show f_Ref_bit (nI u) 29 = 0 from zb0 29 (by omega) (by omega)), if_pos (show f_Ref_bit (nI u) 28 = 0 from zb0 28 (by omega) (by omega)), if_pos (show f_Ref_bit (nI u) 27 = 0 from zb0 27 (by omega) (by omega)), if_pos (show f_Ref_bit (nI u) 26 = 0 from zb0 26 (by omega) (by omega)), if_pos (show f_Ref_bit (nI u) 25 = 0 from zb0 25 (by omega) (by omega)), if_pos (show f_Ref_bit (nI u) 24 = 0 from zb0 24 (by omega) (by omega)), if_pos (show f_Ref_bit (nI u) 23 = 0 from zb0 23 (by omega) (by omega)), if_pos (show f_Ref_bit (nI u) 22 = 0 from zb0 22 (by omega) (by omega)), if_pos (show f_Ref_bit (nI u) 21 = 0 from zb0 21 (by omega) (by omega)), if_pos (show f_Ref_bit (nI u) 20 = 0 from zb0 20 (by omega) (by omega)), if_pos (show f_Ref_bit (nI u) 19 = 0 from zb0 19 (by omega) (by omega)), if_pos (show f_Ref_bit (nI u) 18 = 0 from zb0 18 (by omega) (by omega)), if_pos (show f_Ref_bit (nI u) 17 = 0 from zb0 17 (by omega) (by omega)), if_pos (show f_Ref_bit (nI u) 16 = 0 from zb0 16 (by omega) (by omega)), if_pos (show f_Ref_bit (nI u) 15 = 0 from zb0 15 (by omega) (by omega)), if_pos (show f_Ref_bit (nI u) 14 = 0 from zb0 14 (by omega) (by omega)), if_pos (show f_Ref_bit (nI u) 13 = 0 from zb0 13 (by omega) (by omega)), if_pos (show f_Ref_bit (nI u) 12 = 0 from zb0 12 (by omega) (by omega)), if_neg (show ¬ f_Ref_bit (nI u) 11 = 0 from zb1 11 (by omega) h1 h2)]
theorem nz_11 {u : Nat} (h1 : 2 ^ 11 ≤ u) (h2 : u < 2 ^ (11 + 1)) : f_Int_numberOfLeadingZeros (nI u) = 20 := by
  unfold f_Int_numberOfLeadingZeros
  rw [if_pos (show (0 : Int32) < nI u from nI_lt (a := 0) (b := u) (by omega) (by omega))]
  rw [if_pos (show nI u < 65536 from nI_lt (a := u) (b := 65536) (by omega) (by omega))]
  rw [if_neg (show ¬ nI u < 256 from nI_nlt (a := u) (b := 256) (by omega) (by omega))]
  rw [show ush (nI (u)) 8 = nI (u / 2 ^ 8) from ushN (k := 8) (by omega) (by omega)]
  rw [if_pos (show nI (u / 2 ^ 8) < 16 from nI_lt (a := (u / 2 ^ 8)) (b := 16) (by omega) (by omega))]
  rw [if_neg (show ¬ nI (u / 2 ^ 8) < 4 from nI_nlt (a := (u / 2 ^ 8)) (b := 4) (by omega) (by omega))]
  rw [show ush (nI ((u / 2 ^ 8))) 2 = nI ((u / 2 ^ 8) / 2 ^ 2) from ushN (k := 2) (by omega) (by omega)]
  rw [show ush (nI (((u / 2 ^ 8) / 2 ^ 2))) 1 = nI (((u / 2 ^ 8) / 2 ^ 2) / 2 ^ 1) from ushN (k := 1) (by omega) (by omega)]
  rw [show ((u / 2 ^ 8) / 2 ^ 2) / 2 ^ 1 = 1 from by omega]
  rfl
theorem rz_12 {u : Nat} (h1 : 2 ^ 12 ≤ u) (h2 : u < 2 ^ (12 + 1)) : f_Ref_zeros (nI u) = 19 := by
  unfold f_Ref_zeros
  rw [if_pos (show f_Ref_bit (nI u) 31 = 0 from zb0 31 (by omega) (by omega)), if_pos (show f_Ref_bit (nI u) 30 = 0 from zb0 30 (by omega) (by omega)), if_pos (show f_Ref_bit (nI u) 29 = 0 from zb0 29 (by omega) (by omega)), if_pos (show f_Ref_bit (nI u) 28 = 0 from zb0 28 (by omega) (by omega)), if_pos (show f_Ref_bit (nI u) 27 = 0 from zb0 27 (by omega) (by omega)), if_pos (show f_Ref_bit (nI u) 26 = 0 from zb0 26 (by omega) (by omega)), if_pos (show f_Ref_bit (nI u) 25 = 0 from zb0 25 (by omega) (by omega)), if_pos (show f_Ref_bit (nI u) 24 = 0 from zb0 24 (by omega) (by omega)), if_pos (show f_Ref_bit (nI u) 23 = 0 from zb0 23 (by omega) (by omega)), if_pos (show f_Ref_bit (nI u) 22 = 0 from zb0 22 (by omega) (by omega)), if_pos (show f_Ref_bit (nI u) 21 = 0 from zb0 21 (by omega) (by omega)), if_pos (show f_Ref_bit (nI u) 20 = 0 from zb0 20 (by omega) (by omega)), if_pos (show f_Ref_bit (nI u) 19 = 0 from zb0 19 (by omega) (by omega)), if_pos (show f_Ref_bit (nI u) 18 = 0 from zb0 18 (by omega) (by omega)), if_pos (show f_Ref_bit (nI u) 17 = 0 from zb0 17 (by omega) (by omega)), if_pos (show f_Ref_bit (nI u) 16 = 0 from zb0 16 (by omega) (by omega)), if_pos (show f_Ref_bit (nI u) 15 = 0 from zb0 15 (by omega) (by omega)), if_pos (show f_Ref_bit (nI u) 14 = 0 from zb0 14 (by omega) (by omega)), if_pos (show f_Ref_bit (nI u) 13 = 0 from zb0 13 (by omega) (by omega)), if_neg (show ¬ f_Ref_bit (nI u) 12 = 0 from zb1 12 (by omega) h1 h2)]
theorem nz_12 {u : Nat} (h1 : 2 ^ 12 ≤ u) (h2 : u < 2 ^ (12 + 1)) : f_Int_numberOfLeadingZeros (nI u) = 19 := by
  unfold f_Int_numberOfLeadingZeros
  rw [if_pos (show (0 : Int32) < nI u from nI_lt (a := 0) (b := u) (by omega) (by omega))]
  rw [if_pos (show nI u < 65536 from nI_lt (a := u) (b := 65536) (by omega) (by omega))]
  rw [if_neg (show ¬ nI u < 256 from nI_nlt (a := u) (b := 256) (by omega) (by omega))]
  rw [show ush (nI (u)) 8 = nI (u / 2 ^ 8) from ushN (k := 8) (by omega) (by omega)]
  rw [if_neg (show ¬ nI (u / 2 ^ 8) < 16 from nI_nlt (a := (u / 2 ^ 8)) (b := 16) (by omega) (by omega))]
  rw [show ush (nI ((u / 2 ^ 8))) 4 = nI ((u / 2 ^ 8) / 2 ^ 4) from ushN (k := 4) (by omega) (by omega)]
  rw [if_pos (show nI ((u / 2 ^ 8) / 2 ^ 4) < 4 from nI_lt (a := ((u / 2 ^ 8) / 2 ^ 4)) (b := 4) (by omega) (by omega))]
  rw [show ush (nI (((u / 2 ^ 8) / 2 ^ 4))) 1 = nI (((u / 2 ^ 8) / 2 ^ 4) / 2 ^ 1) from ushN (k := 1) (by omega) (by omega)]
  rw [show ((u / 2 ^ 8) / 2 ^ 4) / 2 ^ 1 = 0 from by omega]
  rfl
theorem rz_13 {u : Nat} (h1 : 2 ^ 13 ≤ u) (h2 : u < 2 ^ (13 + 1)) : f_Ref_zeros (nI u) = 18 := by
  unfold f_Ref_zeros
  rw [if_pos (show f_Ref_bit (nI u) 31 = 0 from zb0 31 (by omega) (by omega)), if_pos (show f_Ref_bit (nI u) 30 = 0 from zb0 30 (by omega) (by omega)), if_pos (show f_Ref_bit (nI u) 29 = 0 from zb0 29 (by omega) (by omega)), if_pos (show f_Ref_bit (nI u) 28 = 0 from zb0 28 (by omega) (by omega)), if_pos (show f_Ref_bit (nI u) 27 = 0 from zb0 27 (by omega) (by omega)), if_pos (show f_Ref_bit (nI u) 26 = 0 from zb0 26 (by omega) (by omega)), if_pos (show f_Ref_bit (nI u) 25 = 0 from zb0 25 (by omega) (by omega)), if_pos (show f_Ref_bit (nI u) 24 = 0 from zb0 24 (by omega) (by omega)), if_pos (show f_Ref_bit (nI u) 23 = 0 from zb0 23 (by omega) (by omega)), if_pos (show f_Ref_bit (nI u) 22 = 0 from zb0 22 (by omega) (by omega)), if_pos (show f_Ref_bit (nI u) 21 = 0 from zb0 21 (by omega) (by omega)), if_pos (show f_Ref_bit (nI u) 20 = 0 from zb0 20 (by omega) (by omega)), if_pos (show f_Ref_bit (nI u) 19 = 0 from zb0 19 (by omega) (by omega)), if_pos (show f_Ref_bit (nI u) 18 = 0 from zb0 18 (by omega) (by omega)), if_pos (show f_Ref_bit (nI u) 17 = 0 from zb0 17 (by omega) (by omega)), if_pos (show f_Ref_bit (nI u) 16 = 0 from zb0 16 (by omega) (by omega)), if_pos (show f_Ref_bit (nI u) 15 = 0 from zb0 15 (by omega) (by omega)), if_pos (show f_Ref_bit (nI u) 14 = 0 from zb0 14 (by omega) (by omega)), if_neg (show ¬ f_Ref_bit (nI u) 13 = 0 from zb1 13 (by omega) h1 h2)]
theorem nz_13 {u : Nat} (h1 : 2 ^ 13 ≤ u) (h2 : u < 2 ^ (13 + 1)) : f_Int_numberOfLeadingZeros (nI u) = 18 := by
  unfold f_Int_numberOfLeadingZeros
  rw [if_pos (show (0 : Int32) < nI u from nI_lt (a := 0) (b := u) (by omega) (by omega))]
  rw [if_pos (show nI u < 65536 from nI_lt (a := u) (b := 65536) (by omega) (by omega))]
  rw [if_neg (show ¬ nI u < 256 from nI_nlt (a := u) (b := 256) (by omega) (by omega))]
  rw [show ush (nI (u)) 8 = nI (u / 2 ^ 8) from ushN (k := 8) (by omega) (by omega)]
  rw [if_neg (show ¬ nI (u / 2 ^ 8) < 16 from nI_nlt (a := (u / 2 ^ 8)) (b := 16) (by omega) (by omega))]
  rw [show ush (nI ((u / 2 ^ 8))) 4 = nI ((u / 2 ^ 8) / 2 ^ 4) from ushN (k := 4) (by omega) (by omega)]
  rw [if_pos (show nI ((u / 2 ^ 8) / 2 ^ 4) < 4 from nI_lt (a := ((u / 2 ^ 8) / 2 ^ 4)) (b := 4) (by omega) (by omega))]
  rw [show ush (nI (((u / 2 ^ 8) / 2 ^ 4))) 1 = nI (((u / 2 ^ 8) / 2 ^ 4) / 2 ^ 1) from ushN (k := 1) (by omega) (by omega)]
  rw [show ((u / 2 ^ 8) / 2 ^ 4) / 2 ^ 1 = 1 from by omega]
  rfl
theorem rz_14 {u : Nat} (h1 : 2 ^ 14 ≤ u) (h2 : u < 2 ^ (14 + 1)) : f_Ref_zeros (nI u) = 17 := by
  unfold f_Ref_zeros
  rw [if_pos (show f_Ref_bit (nI u) 31 = 0 from zb0 31 (by omega) (by omega)), if_pos (show f_Ref_bit (nI u) 30 = 0 from zb0 30 (by omega) (by omega)), if_pos (show f_Ref_bit (nI u) 29 = 0 from zb0 29 (by omega) (by omega)), if_pos (show f_Ref_bit (nI u) 28 = 0 from zb0 28 (by omega) (by omega)), if_pos (show f_Ref_bit (nI u) 27 = 0 from zb0 27 (by omega) (by omega)), if_pos (show f_Ref_bit (nI u) 26 = 0 from zb0 26 (by omega) (by omega)), if_pos (show f_Ref_bit (nI u) 25 = 0 from zb0 25 (by omega) (by omega)), if_pos (show f_Ref_bit (nI u) 24 = 0 from zb0 24 (by omega) (by omega)), if_pos (show f_Ref_bit (nI u) 23 = 0 from zb0 23 (by omega) (by omega)), if_pos (show f_Ref_bit (nI u) 22 = 0 from zb0 22 (by omega) (by omega)), if_pos (show f_Ref_bit (nI u) 21 = 0 from zb0 21 (by omega) (by omega)), if_pos (show f_Ref_bit (nI u) 20 = 0 from zb0 20 (by omega) (by omega)), if_pos (show f_Ref_bit (nI u) 19 = 0 from zb0 19 (by omega) (by omega)), if_pos (show f_Ref_bit (nI u) 18 = 0 from zb0 18 (by omega) (by omega)), if_pos (show f_Ref_bit (nI u) 17 = 0 from zb0 17 (by omega) (by omega)), if_pos (show f_Ref_bit (nI u) 16 = 0 from zb0 16 (by omega) (by omega)), if_pos (show f_Ref_bit (nI u) 15 = 0 from zb0 15 (by omega) (by omega)), if_neg (show ¬ f_Ref_bit (nI u) 14 = 0 from zb1 14 (by omega) h1 h2)]
theorem nz_14 {u : Nat} (h1 : 2 ^ 14 ≤ u) (h2 : u < 2 ^ (14 + 1)) : f_Int_numberOfLeadingZeros (nI u) = 17 := by
  unfold f_Int_numberOfLeadingZeros
  rw [if_pos (show (0 : Int32) < nI u from nI_lt (a := 0) (b := u) (by omega) (by omega))]
  rw [if_pos (show nI u < 65536 from nI_lt (a := u) (b := 65536) (by omega) (by omega))]
  rw [if_neg (show ¬ nI u < 256 from nI_nlt (a := u) (b := 256) (by omega) (by omega))]
  rw [show ush (nI (u)) 8 = nI (u / 2 ^ 8) from ushN (k := 8) (by omega) (by omega)]
  rw [if_neg (show ¬ nI (u / 2 ^ 8) < 16 from nI_nlt (a := (u / 2 ^ 8)) (b := 16) (by omega) (by omega))]
  rw [show ush (nI ((u / 2 ^ 8))) 4 = nI ((u / 2 ^ 8) / 2 ^ 4) from ushN (k := 4) (by omega) (by omega)]
  rw [if_neg (show ¬ nI ((u / 2 ^ 8) / 2 ^ 4) < 4 from nI_nlt (a := ((u / 2 ^ 8) / 2 ^ 4)) (b := 4) (by omega) (by omega))]
  rw [show ush (nI (((u / 2 ^ 8) / 2 ^ 4))) 2 = nI (((u / 2 ^ 8) / 2 ^ 4) / 2 ^ 2) from ushN (k := 2) (by omega) (by omega)]
  rw [show ush (nI ((((u / 2 ^ 8) / 2 ^ 4) / 2 ^ 2))) 1 = nI ((((u / 2 ^ 8) / 2 ^ 4) / 2 ^ 2) / 2 ^ 1) from ushN (k := 1) (by omega) (by omega)]
  rw [show (((u / 2 ^ 8) / 2 ^ 4) / 2 ^ 2) / 2 ^ 1 = 0 from by omega]
  rfl
theorem rz_15 {u : Nat} (h1 : 2 ^ 15 ≤ u) (h2 : u < 2 ^ (15 + 1)) : f_Ref_zeros (nI u) = 16 := by
  unfold f_Ref_zeros
  rw [if_pos (show f_Ref_bit (nI u) 31 = 0 from zb0 31 (by omega) (by omega)), if_pos (show f_Ref_bit (nI u) 30 = 0 from zb0 30 (by omega) (by omega)), if_pos (show f_Ref_bit (nI u) 29 = 0 from zb0 29 (by omega) (by omega)), if_pos (show f_Ref_bit (nI u) 28 = 0 from zb0 28 (by omega) (by omega)), if_pos (show f_Ref_bit (nI u) 27 = 0 from zb0 27 (by omega) (by omega)), if_pos (show f_Ref_bit (nI u) 26 = 0 from zb0 26 (by omega) (by omega)), if_pos (show f_Ref_bit (nI u) 25 = 0 from zb0 25 (by omega) (by omega)), if_pos (show f_Ref_bit (nI u) 24 = 0 from zb0 24 (by omega) (by omega)), if_pos (show f_Ref_bit (nI u) 23 = 0 from zb0 23 (by omega) (by omega)), if_pos (show f_Ref_bit (nI u) 22 = 0 from zb0 22 (by omega) (by omega)), if_pos (show f_Ref_bit (nI u) 21 = 0 from zb0 21 (by omega) (by omega)), if_pos (show f_Ref_bit (nI u) 20 = 0 from zb0 20 (by omega) (by omega)), if_pos (show f_Ref_bit (nI u) 19 = 0 from zb0 19 (by omega) (by omega)), if_pos (show f_Ref_bit (nI u) 18 = 0 from zb0 18 (by omega) (by omega)), if_pos (show f_Ref_bit (nI u) 17 = 0 from zb0 17 (by omega) (by omega)), if_pos (show f_Ref_bit (nI u) 16 = 0 from zb0 16 (by omega) (by omega)), if_neg (show ¬ f_Ref_bit (nI u) 15 = 0 from zb1 15 (by omega) h1 h2)]
theorem nz_15 {u : Nat} (h1 : 2 ^ 15 ≤ u) (h2 : u < 2 ^ (15 + 1)) : f_Int_numberOfLeadingZeros (nI u) = 16 := by
  unfold f_Int_numberOfLeadingZeros
  rw [if_pos (show (0 : Int32) < nI u from nI_lt (a := 0) (b := u) (by omega) (by omega))]
  rw [if_pos (show nI u < 65536 from nI_lt (a := u) (b := 65536) (by omega) (by omega))]
  rw [if_neg (show ¬ nI u < 256 from nI_nlt (a := u) (b := 256) (by omega) (by omega))]
  rw [show ush (nI (u)) 8 = nI (u / 2 ^ 8) from ushN (k := 8) (by omega) (by omega)]
  rw [if_neg (show ¬ nI (u / 2 ^ 8) < 16 from nI_nlt (a := (u / 2 ^ 8)) (b := 16) (by omega) (by omega))]
  rw [show ush (nI ((u / 2 ^ 8))) 4 = nI ((u / 2 ^ 8) / 2 ^ 4) from ushN (k := 4) (by omega) (by omega)]
  rw [if_neg (show ¬ nI ((u / 2 ^ 8) / 2 ^ 4) < 4 from nI_nlt (a := ((u / 2 ^ 8) / 2 ^ 4)) (b := 4) (by omega) (by omega))]
  rw [show ush (nI (((u / 2 ^ 8) / 2 ^ 4))) 2 = nI (((u / 2 ^ 8) / 2 ^ 4) / 2 ^ 2) from ushN (k := 2) (by omega) (by omega)]
  rw [show ush (nI ((((u / 2 ^ 8) / 2 ^ 4) / 2 ^ 2))) 1 = nI ((((u / 2 ^ 8) / 2 ^ 4) / 2 ^ 2) / 2 ^ 1) from ushN (k := 1) (by omega) (by omega)]
  rw [show (((u / 2 ^ 8) / 2 ^ 4) / 2 ^ 2) / 2 ^ 1 = 1 from by omega]
  rfl
theorem rz_16 {u : Nat} (h1 : 2 ^ 16 ≤ u) (h2 : u < 2 ^ (16 + 1)) : f_Ref_zeros (nI u) = 15 := by
  unfold f_Ref_zeros
  rw [if_pos (show f_Ref_bit (nI u) 31 = 0 from zb0 31 (by omega) (by omega)), if_pos (show f_Ref_bit (nI u) 30 = 0 from zb0 30 (by omega) (by omega)), if_pos (show f_Ref_bit (nI u) 29 = 0 from zb0 29 (by omega) (by omega)), if_pos (show f_Ref_bit (nI u) 28 = 0 from zb0 28 (by omega) (by omega)), if_pos (show f_Ref_bit (nI u) 27 = 0 from zb0 27 (by omega) (by omega)), if_pos (show f_Ref_bit (nI u) 26 = 0 from zb0 26 (by omega) (by omega)), if_pos (show f_Ref_bit (nI u) 25 = 0 from zb0 25 (by omega) (by omega)), if_pos (show f_Ref_bit (nI u) 24 = 0 from zb0 24 (by omega) (by omega)), if_pos (show f_Ref_bit (nI u) 23 = 0 from zb0 23 (by omega) (by omega)), if_pos (show f_Ref_bit (nI u) 22 = 0 from zb0 22 (by omega) (by omega)), if_pos (show f_Ref_bit (nI u) 21 = 0 from zb0 21 (by omega) (by omega)), if_pos (show f_Ref_bit (nI u) 20 = 0 from zb0 20 (by omega) (by omega)), if_pos (show f_Ref_bit (nI u) 19 = 0 from zb0 19 (by omega) (by omega)), if_pos (show f_Ref_bit (nI u) 18 = 0 from zb0 18 (by omega) (by omega)), if_pos (show f_Ref_bit (nI u) 17 = 0 from zb0 17 (by omega) (by omega)), if_neg (show ¬ f_Ref_bit (nI u) 16 = 0 from zb1 16 (by omega) h1 h2)]
theorem nz_16 {u : Nat} (h1 : 2 ^ 16 ≤ u) (h2 : u < 2 ^ (16 + 1)) : f_Int_numberOfLeadingZeros (nI u) = 15 := by
  unfold f_Int_numberOfLeadingZeros
  rw [if_pos (show (0 : Int32) < nI u from nI_lt (a := 0) (b := u) (by omega) (by omega))]
  rw [if_neg (show ¬ nI u < 65536 from nI_nlt (a := u) (b := 65536) (by omega) (by omega))]
  rw [show ush (nI (u)) 16 = nI (u / 2 ^ 16) from ushN (k := 16) (by omega) (by omega)]
  rw [if_pos (show nI (u / 2 ^ 16) < 256 from nI_lt (a := (u / 2 ^ 16)) (b := 256) (by omega) (by omega))]
  rw [if_pos (show nI (u / 2 ^ 16) < 16 from nI_lt (a := (u / 2 ^ 16)) (b := 16) (by omega) (by omega))]
  rw [if_pos (show nI (u / 2 ^ 16) < 4 from nI_lt (a := (u / 2 ^ 16)) (b := 4) (by omega) (by omega))]
  rw [show ush (nI ((u / 2 ^ 16))) 1 = nI ((u / 2 ^ 16) / 2 ^ 1) from ushN (k := 1) (by omega) (by omega)]
  rw [show (u / 2 ^ 16) / 2 ^ 1 = 0 from by omega]
  rfl
theorem rz_17 {u : Nat} (h1 : 2 ^ 17 ≤ u) (h2 : u < 2 ^ (17 + 1)) : f_Ref_zeros (nI u) = 14 := by
  unfold f_Ref_zeros
  rw [if_pos (show f_Ref_bit (nI u) 31 = 0 from zb0 31 (by omega) (by omega)), if_pos (show f_Ref_bit (nI u) 30 = 0 from zb0 30 (by omega) (by omega)), if_pos (show f_Ref_bit (nI u) 29 = 0 from zb0 29 (by omega) (by omega)), if_pos (show f_Ref_bit (nI u) 28 = 0 from zb0 28 (by omega) (by omega)), if_pos (show f_Ref_bit (nI u) 27 = 0 from zb0 27 (by omega) (by omega)), if_pos (show f_Ref_bit (nI u) 26 = 0 from zb0 26 (by omega) (by omega)), if_pos (show f_Ref_bit (nI u) 25 = 0 from zb0 25 (by omega) (by omega)), if_pos (show f_Ref_bit (nI u) 24 = 0 from zb0 24 (by omega) (by omega)), if_pos (show f_Ref_bit (nI u) 23 = 0 from zb0 23 (by omega) (by omega)), if_pos (show f_Ref_bit (nI u) 22 = 0 from zb0 22 (by omega) (by omega)), if_pos (show f_Ref_bit (nI u) 21 = 0 from zb0 21 (by omega) (by omega)), if_pos (show f_Ref_bit (nI u) 20 = 0 from zb0 20 (by omega) (by omega)), if_pos (show f_Ref_bit (nI u) 19 = 0 from zb0 19 (by omega) (by omega)), if_pos (show f_Ref_bit (nI u) 18 = 0 from zb0 18 (by omega) (by omega)), if_neg (show ¬ f_Ref_bit (nI u) 17 = 0 from zb1 17 (by omega) h1 h2)]
theorem nz_17 {u : Nat} (h1 : 2 ^ 17 ≤ u) (h2 : u < 2 ^ (17 + 1)) : f_Int_numberOfLeadingZeros (nI u) = 14 := by
  unfold f_Int_numberOfLeadingZeros
  rw [if_pos (show (0 : Int32) < nI u from nI_lt (a := 0) (b := u) (by omega) (by omega))]
  rw [if_neg (show ¬ nI u < 65536 from nI_nlt (a := u) (b := 65536) (by omega) (by omega))]
  rw [show ush (nI (u)) 16 = nI (u / 2 ^ 16) from ushN (k := 16) (by omega) (by omega)]
  rw [if_pos (show nI (u / 2 ^ 16) < 256 from nI_lt (a := (u / 2 ^ 16)) (b := 256) (by omega) (by omega))]
  rw [if_pos (show nI (u / 2 ^ 16) < 16 from nI_lt (a := (u / 2 ^ 16)) (b := 16) (by omega) (by omega))]
  rw [if_pos (show nI (u / 2 ^ 16) < 4 from nI_lt (a := (u / 2 ^ 16)) (b := 4) (by omega) (by omega))]
  rw [show ush (nI ((u / 2 ^ 16))) 1 = nI ((u / 2 ^ 16) / 2 ^ 1) from ushN (k := 1) (by omega) (by omega)]
  rw [show (u / 2 ^ 16) / 2 ^ 1 = 1 from by omega]
  rfl
theorem rz_18 {u : Nat} (h1 : 2 ^ 18 ≤ u) (h2 : u < 2 ^ (18 + 1)) : f_Ref_zeros (nI u) = 13 := by
  unfold f_Ref_zeros
  rw [if_pos (show f_Ref_bit (nI u) 31 = 0 from zb0 31 (by omega) (by omega)), if_pos (show f_Ref_bit (nI u) 30 = 0 from zb0 30 (by omega) (by omega)), if_pos (show f_Ref_bit (nI u) 29 = 0 from zb0 29 (by omega) (by omega)), if_pos (show f_Ref_bit (nI u) 28 = 0 from zb0 28 (by omega) (by omega)), if_pos (show f_Ref_bit (nI u) 27 = 0 from zb0 27 (by omega) (by omega)), if_pos (show f_Ref_bit (nI u) 26 = 0 from zb0 26 (by omega) (by omega)), if_pos (show f_Ref_bit (nI u) 25 = 0 from zb0 25 (by omega) (by omega)), if_pos (show f_Ref_bit (nI u) 24 = 0 from zb0 24 (by omega) (by omega)), if_pos (show f_Ref_bit (nI u) 23 = 0 from zb0 23 (by omega) (by omega)), if_pos (show f_Ref_bit (nI u) 22 = 0 from zb0 22 (by omega) (by omega)), if_pos (show f_Ref_bit (nI u) 21 = 0 from zb0 21 (by omega) (by omega)), if_pos (show f_Ref_bit (nI u) 20 = 0 from zb0 20 (by omega) (by omega)), if_pos (show f_Ref_bit (nI u) 19 = 0 from zb0 19 (by omega) (by omega)), if_neg (show ¬ f_Ref_bit (nI u) 18 = 0 from zb1 18 (by omega) h1 h2)]
theorem nz_18 {u : Nat} (h1 : 2 ^ 18 ≤ u) (h2 : u < 2 ^ (18 + 1)) : f_Int_numberOfLeadingZeros (nI u) = 13 := by
  unfold f_Int_numberOfLeadingZeros
  rw [if_pos (show (0 : Int32) < nI u from nI_lt (a := 0) (b := u) (by omega) (by omega))]
  rw [if_neg (show ¬ nI u < 65536 from nI_nlt (a := u) (b := 65536) (by omega) (by omega))]
  rw [show ush (nI (u)) 16 = nI (u / 2 ^ 16) from ushN (k := 16) (by omega) (by omega)]
  rw [if_pos (show nI (u / 2 ^ 16) < 256 from nI_lt (a := (u / 2 ^ 16)) (b := 256) (by omega) (by omega))]
  rw [if_pos (show nI (u / 2 ^ 16) < 16 from nI_lt (a := (u / 2 ^ 16)) (b := 16) (by omega) (by omega))]
  rw [if_neg (show ¬ nI (u / 2 ^ 16) < 4 from nI_nlt (a := (u / 2 ^ 16)) (b := 4) (by omega) (by omega))]
  rw [show ush (nI ((u / 2 ^ 16))) 2 = nI ((u / 2 ^ 16) / 2 ^ 2) from ushN (k := 2) (by omega) (by omega)]
  rw [show ush (nI (((u / 2 ^ 16) / 2 ^ 2))) 1 = nI (((u / 2 ^ 16) / 2 ^ 2) / 2 ^ 1) from ushN (k := 1) (by omega) (by omega)]
  rw [show ((u / 2 ^ 16) / 2 ^ 2) / 2 ^ 1 = 0 from by omega]
  rfl
theorem rz_19 {u : Nat} (h1 : 2 ^ 19 ≤ u) (h2 : u < 2 ^ (19 + 1)) : f_Ref_zeros (nI u) = 12 := by
  unfold f_Ref_zeros
  rw [if_pos (show f_Ref_bit (nI u) 31 = 0 from zb0 31 (by omega) (by omega)), if_pos (show f_Ref_bit (nI u) 30 = 0 from zb0 30 (by omega) (by omega)), if_pos (show f_Ref_bit (nI u) 29 = 0 from zb0 29 (by omega) (by omega)), if_pos (show f_Ref_bit (nI u) 28 = 0 from zb0 28 (by omega) (by omega)), if_pos (show f_Ref_bit (nI u) 27 = 0 from zb0 27 (by omega) (by omega)), if_pos (show f_Ref_bit (nI u) 26 = 0 from zb0 26 (by omega) (by omega)), if_pos (show f_Ref_bit (nI u) 25 = 0 from zb0 25 (by omega) (by omega)), if_pos (show f_Ref_bit (nI u) 24 = 0 from zb0 24 (by omega) (by omega)), if_pos (show f_Ref_bit (nI u) 23 = 0 from zb0 23 (by omega) (by omega)), if_pos (show f_Ref_bit (nI u) 22 = 0 from zb0 22 (by omega) (by omega)), if_pos (show f_Ref_bit (nI u) 21 = 0 from zb0 21 (by omega) (by omega)), if_pos (show f_Ref_bit (nI u) 20 = 0 from zb0 20 (by omega) (by omega)), if_neg (show ¬ f_Ref_bit (nI u) 19 = 0 from zb1 19 (by omega) h1 h2)]
theorem nz_19 {u : Nat} (h1 : 2 ^ 19 ≤ u) (h2 : u < 2 ^ (19 + 1)) : f_Int_numberOfLeadingZeros (nI u) = 12 := by
  unfold f_Int_numberOfLeadingZeros
  rw [if_pos (show (0 : Int32) < nI u from nI_lt (a := 0) (b := u) (by omega) (by omega))]
  rw [if_neg (show ¬ nI u < 65536 from nI_nlt (a := u) (b := 65536) (by omega) (by omega))]
  rw [show ush (nI (u)) 16 = nI (u / 2 ^ 16) from ushN (k := 16) (by omega) (by omega)]
  rw [if_pos (show nI (u / 2 ^ 16) < 256 from nI_lt (a := (u / 2 ^ 16)) (b := 256) (by omega) (by omega))]
  rw [if_pos (show nI (u / 2 ^ 16) < 16 from nI_lt (a := (u / 2 ^ 16)) (b := 16) (by omega) (by omega))]
  rw [if_neg (show ¬ nI (u / 2 ^ 16) < 4 from nI_nlt (a := (u / 2 ^ 16)) (b := 4) (by omega) (by omega))]
  rw [show ush (nI ((u / 2 ^ 16))) 2 = nI ((u / 2 ^ 16) / 2 ^ 2) from ushN (k := 2) (by omega) (by omega)]
  rw [show ush (nI (((u / 2 ^ 16) / 2 ^ 2))) 1 = nI (((u / 2 ^ 16) / 2 ^ 2) / 2 ^ 1) from ushN (k := 1) (by omega) (by omega)]
  rw [show ((u / 2 ^ 16) / 2 ^ 2) / 2 ^ 1 = 1 from by omega]
  rfl
theorem rz_20 {u : Nat} (h1 : 2 ^ 20 ≤ u) (h2 : u < 2 ^ (20 + 1)) : f_Ref_zeros (nI u) = 11 := by
  unfold f_Ref_zeros
  rw [if_pos (show f_Ref_bit (nI u) 31 = 0 from zb0 31 (by omega) (by omega)), if_pos (show f_Ref_bit (nI u) 30 = 0 from zb0 30 (by omega) (by omega)), if_pos (show f_Ref_bit (nI u) 29 = 0 from zb0 29 (by omega) (by omega)), if_pos (show f_Ref_bit (nI u) 28 = 0 from zb0 28 (by omega) (by omega)), if_pos (show f_Ref_bit (nI u) 27 = 0 from zb0 27 (by omega) (by omega)), if_pos (show f_Ref_bit (nI u) 26 = 0 from zb0 26 (by omega) (by omega)), if_pos (show f_Ref_bit (nI u) 25 = 0 from zb0 25 (by omega) (by omega)), if_pos (show f_Ref_bit (nI u) 24 = 0 from zb0 24 (by omega) (by omega)), if_pos (show f_Ref_bit (nI u) 23 = 0 from zb0 23 (by omega) (by omega)), if_pos (show f_Ref_bit (nI u) 22 = 0 from zb0 22 (by omega) (by omega)), if_pos (show f_Ref_bit (nI u) 21 = 0 from zb0 21 (by omega) (by omega)), if_neg (show ¬ f_Ref_bit (nI u) 20 = 0 from zb1 20 (by omega) h1 h2)]
theorem nz_20 {u : Nat} (h1 : 2 ^ 20 ≤ u) (h2 : u < 2 ^ (20 + 1)) : f_Int_numberOfLeadingZeros (nI u) = 11 := by
  unfold f_Int_numberOfLeadingZeros
  rw [if_pos (show (0 : Int32) < nI u from nI_lt (a := 0) (b := u) (by omega) (by omega))]
  rw [if_neg (show ¬ nI u < 65536 from nI_nlt (a := u) (b := 65536) (by omega) (by omega))]
  rw [show ush (nI (u)) 16 = nI (u / 2 ^ 16) from ushN (k := 16) (by omega) (by omega)]
  rw [if_pos (show nI (u / 2 ^ 16) < 256 from nI_lt (a := (u / 2 ^ 16)) (b := 256) (by omega) (by omega))]
  rw [if_neg (show ¬ nI (u / 2 ^ 16) < 16 from nI_nlt (a := (u / 2 ^ 16)) (b := 16) (by omega) (by omega))]
  rw [show ush (nI ((u / 2 ^ 16))) 4 = nI ((u / 2 ^ 16) / 2 ^ 4) from ushN (k := 4) (by omega) (by omega)]
  rw [if_pos (show nI ((u / 2 ^ 16) / 2 ^ 4) < 4 from nI_lt (a := ((u / 2 ^ 16) / 2 ^ 4)) (b := 4) (by omega) (by omega))]
  rw [show ush (nI (((u / 2 ^ 16) / 2 ^ 4))) 1 = nI (((u / 2 ^ 16) / 2 ^ 4) / 2 ^ 1) from ushN (k := 1) (by omega) (by omega)]
  rw [show ((u / 2 ^ 16) / 2 ^ 4) / 2 ^ 1 = 0 from by omega]
  rfl
theorem rz_21 {u : Nat} (h1 : 2 ^ 21 ≤ u) (h2 : u < 2 ^ (21 + 1)) : f_Ref_zeros (nI u) = 10 := by
  unfold f_Ref_zeros
  rw [if_pos (show f_Ref_bit (nI u) 31 = 0 from zb0 31 (by omega) (by omega)), if_pos (show f_Ref_bit (nI u) 30 = 0 from zb0 30 (by omega) (by omega)), if_pos (show f_Ref_bit (nI u) 29 = 0 from zb0 29 (by omega) (by omega)), if_pos (show f_Ref_bit (nI u) 28 = 0 from zb0 28 (by omega) (by omega)), if_pos (show f_Ref_bit (nI u) 27 = 0 from zb0 27 (by omega) (by omega)), if_pos (show f_Ref_bit (nI u) 26 = 0 from zb0 26 (by omega) (by omega)), if_pos (show f_Ref_bit (nI u) 25 = 0 from zb0 25 (by omega) (by omega)), if_pos (show f_Ref_bit (nI u) 24 = 0 from zb0 24 (by omega) (by omega)), if_pos (show f_Ref_bit (nI u) 23 = 0 from zb0 23 (by omega) (by omega)), if_pos (show f_Ref_bit (nI u) 22 = 0 from zb0 22 (by omega) (by omega)), if_neg (show ¬ f_Ref_bit (nI u) 21 = 0 from zb1 21 (by omega) h1 h2)]
theorem nz_21 {u : Nat} (h1 : 2 ^ 21 ≤ u) (h2 : u < 2 ^ (21 + 1)) : f_Int_numberOfLeadingZeros (nI u) = 10 := by
  unfold f_Int_numberOfLeadingZeros
  rw [if_pos (show (0 : Int32) < nI u from nI_lt (a := 0) (b := u) (by omega) (by omega))]
  rw [if_neg (show ¬ nI u < 65536 from nI_nlt (a := u) (b := 65536) (by omega) (by omega))]
  rw [show ush (nI (u)) 16 = nI (u / 2 ^ 16) from ushN (k := 16) (by omega) (by omega)]
  rw [if_pos (show nI (u / 2 ^ 16) < 256 from nI_lt (a := (u / 2 ^ 16)) (b := 256) (by omega) (by omega))]
  rw [if_neg (show ¬ nI (u / 2 ^ 16) < 16 from nI_nlt (a := (u / 2 ^ 16)) (b := 16) (by omega) (by omega))]
  rw [show ush (nI ((u / 2 ^ 16))) 4 = nI ((u / 2 ^ 16) / 2 ^ 4) from ushN (k := 4) (by omega) (by omega)]
  rw [if_pos (show nI ((u / 2 ^ 16) / 2 ^ 4) < 4 from nI_lt (a := ((u / 2 ^ 16) / 2 ^ 4)) (b := 4) (by omega) (by omega))]
  rw [show ush (nI (((u / 2 ^ 16) / 2 ^ 4))) 1 = nI (((u / 2 ^ 16) / 2 ^ 4) / 2 ^ 1) from ushN (k := 1) (by omega) (by omega)]
  rw [show ((u / 2 ^ 16) / 2 ^ 4) / 2 ^ 1 = 1 from by omega]
  rfl
theorem rz_22 {u : Nat} (h1 : 2 ^ 22 ≤ u) (h2 : u < 2 ^ (22 + 1)) : f_Ref_zeros (nI u) = 9 := by
  unfold f_Ref_zeros
  rw [if_pos (show f_Ref_bit (nI u) 31 = 0 from zb0 31 (by omega) (by omega)), if_pos (show f_Ref_bit (nI u) 30 = 0 from zb0 30 (by omega) (by omega)), if_pos (show f_Ref_bit (nI u) 29 = 0 from zb0 29 (by omega) (by omega)), if_pos (show f_Ref_bit (nI u) 28 = 0 from zb0 28 (by omega) (by omega)), if_pos (show f_Ref_bit (nI u) 27 = 0 from zb0 27 (by omega) (by omega)), if_pos (show f_Ref_bit (nI u) 26 = 0 from zb0 26 (by omega) (by omega)), if_pos (show f_Ref_bit (nI u) 25 = 0 from zb0 25 (by omega) (by omega)), if_pos (show f_Ref_bit (nI u) 24 = 0 from zb0 24 (by omega) (by omega)), if_pos (show f_Ref_bit (nI u) 23 = 0 from zb0 23 (by omega) (by omega)), if_neg (show ¬ f_Ref_bit (nI u) 22 = 0 from zb1 22 (by omega) h1 h2)]
theorem nz_22 {u : Nat} (h1 : 2 ^ 22 ≤ u) (h2 : u < 2 ^ (22 + 1)) : f_Int_numberOfLeadingZeros (nI u) = 9 := by
  unfold f_Int_numberOfLeadingZeros
  rw [if_pos (show (0 : Int32) < nI u from nI_lt (a := 0) (b := u) (by omega) (by omega))]
  rw [if_neg (show ¬ nI u < 65536 from nI_nlt (a := u) (b := 65536) (by omega) (by omega))]
  rw [show ush (nI (u)) 16 = nI (u / 2 ^ 16) from ushN (k := 16) (by omega) (by omega)]
  rw [if_pos (show nI (u / 2 ^ 16) < 256 from nI_lt (a := (u / 2 ^ 16)) (b := 256) (by omega) (by omega))]
  rw [if_neg (show ¬ nI (u / 2 ^ 16) < 16 from nI_nlt (a := (u / 2 ^ 16)) (b := 16) (by omega) (by omega))]
  rw [show ush (nI ((u / 2 ^ 16))) 4 = nI ((u / 2 ^ 16) / 2 ^ 4) from ushN (k := 4) (by omega) (by omega)]
  rw [if_neg (show ¬ nI ((u / 2 ^ 16) / 2 ^ 4) < 4 from nI_nlt (a := ((u / 2 ^ 16) / 2 ^ 4)) (b := 4) (by omega) (by omega))]
  rw [show ush (nI (((u / 2 ^ 16) / 2 ^ 4))) 2 = nI (((u / 2 ^ 16) / 2 ^ 4) / 2 ^ 2) from ushN (k := 2) (by omega) (by omega)]
  rw [show ush (nI ((((u / 2 ^ 16) / 2 ^ 4) / 2 ^ 2))) 1 = nI ((((u / 2 ^ 16) / 2 ^ 4) / 2 ^ 2) / 2 ^ 1) from ushN (k := 1) (by omega) (by omega)]
  rw [show (((u / 2 ^ 16) / 2 ^ 4) / 2 ^ 2) / 2 ^ 1 = 0 from by omega]
  rfl
theorem rz_23 {u : Nat} (h1 : 2 ^ 23 ≤ u) (h2 : u < 2 ^ (23 + 1)) : f_Ref_zeros (nI u) = 8 := by
  unfold f_Ref_zeros
  rw [if_pos (show f_Ref_bit (nI u) 31 = 0 from zb0 31 (by omega) (by omega)), if_pos (show f_Ref_bit (nI u) 30 = 0 from zb0 30 (by omega) (by omega)), if_pos (show f_Ref_bit (nI u) 29 = 0 from zb0 29 (by omega) (by omega)), if_pos (show f_Ref_bit (nI u) 28 = 0 from zb0 28 (by omega) (by omega)), if_pos (show f_Ref_bit (nI u) 27 = 0 from zb0 27 (by omega) (by omega)), if_pos (show f_Ref_bit (nI u) 26 = 0 from zb0 26 (by omega) (by omega)), if_pos (show f_Ref_bit (nI u) 25 = 0 from zb0 25 (by omega) (by omega)), if_pos (show f_Ref_bit (nI u) 24 = 0 from zb0 24 (by omega) (by omega)), if_neg (show ¬ f_Ref_bit (nI u) 23 = 0 from zb1 23 (by omega) h1 h2)]
theorem nz_23 {u : Nat} (h1 : 2 ^ 23 ≤ u) (h2 : u < 2 ^ (23 + 1)) : f_Int_numberOfLeadingZeros (nI u) = 8 := by
  unfold f_Int_numberOfLeadingZeros
  rw [if_pos (show (0 : Int32) < nI u from nI_lt (a := 0) (b := u) (by omega) (by omega))]
  rw [if_neg (show ¬ nI u < 65536 from nI_nlt (a := u) (b := 65536) (by omega) (by omega))]
  rw [show ush (nI (u)) 16 = nI (u / 2 ^ 16) from ushN (k := 16) (by omega) (by omega)]
  rw [if_pos (show nI (u / 2 ^ 16) < 256 from nI_lt (a := (u / 2 ^ 16)) (b := 256) (by omega) (by omega))]
  rw [if_neg (show ¬ nI (u / 2 ^ 16) < 16 from nI_nlt (a := (u / 2 ^ 16)) (b := 16) (by omega) (by omega))]
  rw [show ush (nI ((u / 2 ^ 16))) 4 = nI ((u / 2 ^ 16) / 2 ^ 4) from ushN (k := 4) (by omega) (by omega)]
  rw [if_neg (show ¬ nI ((u / 2 ^ 16) / 2 ^ 4) < 4 from nI_nlt (a := ((u / 2 ^ 16) / 2 ^ 4)) (b := 4) (by omega) (by omega))]
  rw [show ush (nI (((u / 2 ^ 16) / 2 ^ 4))) 2 = nI (((u / 2 ^ 16) / 2 ^ 4) / 2 ^ 2) from ushN (k := 2) (by omega) (by omega)]
  rw [show ush (nI ((((u / 2 ^ 16) / 2 ^ 4) / 2 ^ 2))) 1 = nI ((((u / 2 ^ 16) / 2 ^ 4) / 2 ^ 2) / 2 ^ 1) from ushN (k := 1) (by omega) (by omega)]
  rw [show (((u / 2 ^ 16) / 2 ^ 4) / 2 ^ 2) / 2 ^ 1 = 1 from by omega]
  rfl
theorem rz_24 {u : Nat} (h1 : 2 ^ 24 ≤ u) (h2 : u < 2 ^ (24 + 1)) : f_Ref_zeros (nI u) = 7 := by
  unfold f_Ref_zeros
  rw [if_pos (show f_Ref_bit (nI u) 31 = 0 from zb0 31 (by omega) (by omega)), if_pos (show f_Ref_bit (nI u) 30 = 0 from zb0 30 (by omega) (by omega)), if_pos (show f_Ref_bit (nI u) 29 = 0 from zb0 29 (by omega) (by omega)), if_pos (show f_Ref_bit (nI u) 28 = 0 from zb0 28 (by omega) (by omega)), if_pos (show f_Ref_bit (nI u) 27 = 0 from zb0 27 (by omega) (by omega)), if_pos (show f_Ref_bit (nI u) 26 = 0 from zb0 26 (by omega) (by omega)), if_pos (show f_Ref_bit (nI u) 25 = 0 from zb0 25 (by omega) (by omega)), if_neg (show ¬ f_Ref_bit (nI u) 24 = 0 from zb1 24 (by omega) h1 h2)]
theorem nz_24 {u : Nat} (h1 : 2 ^ 24 ≤ u) (h2 : u < 2 ^ (24 + 1)) : f_Int_numberOfLeadingZeros (nI u) = 7 := by
  unfold f_Int_numberOfLeadingZeros
  rw [if_pos (show (0 : Int32) < nI u from nI_lt (a := 0) (b := u) (by omega) (by omega))]
  rw [if_neg (show ¬ nI u < 65536 from nI_nlt (a := u) (b := 65536) (by omega) (by omega))]
  rw [show ush (nI (u)) 16 = nI (u / 2 ^ 16) from ushN (k := 16) (by omega) (by omega)]
  rw [if_neg (show ¬ nI (u / 2 ^ 16) < 256 from nI_nlt (a := (u / 2 ^ 16)) (b := 256) (by omega) (by omega))]
  rw [show ush (nI ((u / 2 ^ 16))) 8 = nI ((u / 2 ^ 16) / 2 ^ 8) from ushN (k := 8) (by omega) (by omega)]
  rw [if_pos (show nI ((u / 2 ^ 16) / 2 ^ 8) < 16 from nI_lt (a := ((u / 2 ^ 16) / 2 ^ 8)) (b := 16) (by omega) (by omega))]
  rw [if_pos (show nI ((u / 2 ^ 16) / 2 ^ 8) < 4 from nI_lt (a := ((u / 2 ^ 16) / 2 ^ 8)) (b := 4) (by omega) (by omega))]
  rw [show ush (nI (((u / 2 ^ 16) / 2 ^ 8))) 1 = nI (((u / 2 ^ 16) / 2 ^ 8) / 2 ^ 1) from ushN (k := 1) (by omega) (by omega)]
  rw [show ((u / 2 ^ 16) / 2 ^ 8) / 2 ^ 1 = 0 from by omega]
  rfl
theorem rz_25 {u : Nat} (h1 : 2 ^ 25 ≤ u) (h2 : u < 2 ^ (25 + 1)) : f_Ref_zeros (nI u) = 6 := by
  unfold f_Ref_zeros
  rw [if_pos (show f_Ref_bit (nI u) 31 = 0 from zb0 31 (by omega) (by omega)), if_pos (show f_Ref_bit (nI u) 30 = 0 from zb0 30 (by omega) (by omega)), if_pos (show f_Ref_bit (nI u) 29 = 0 from zb0 29 (by omega) (by omega)), if_pos (show f_Ref_bit (nI u) 28 = 0 from zb0 28 (by omega) (by omega)), if_pos (show f_Ref_bit (nI u) 27 = 0 from zb0 27 (by omega) (by omega)), if_pos (show f_Ref_bit (nI u) 26 = 0 from zb0 26 (by omega) (by omega)), if_neg (show ¬ f_Ref_bit (nI u) 25 = 0 from zb1 25 (by omega) h1 h2)]
theorem nz_25 {u : Nat} (h1 : 2 ^ 25 ≤ u) (h2 : u < 2 ^ (25 + 1)) : f_Int_numberOfLeadingZeros (nI u) = 6 := by
  unfold f_Int_numberOfLeadingZeros
  rw [if_pos (show (0 : Int32) < nI u from nI_lt (a := 0) (b := u) (by omega) (by omega))]
  rw [if_neg (show ¬ nI u < 65536 from nI_nlt (a := u) (b := 65536) (by omega) (by omega))]
  rw [show ush (nI (u)) 16 = nI (u / 2 ^ 16) from ushN (k := 16) (by omega) (by omega)]
  rw [if_neg (show ¬ nI (u / 2 ^ 16) < 256 from nI_nlt (a := (u / 2 ^ 16)) (b := 256) (by omega) (by omega))]
  rw [show ush (nI ((u / 2 ^ 16))) 8 = nI ((u / 2 ^ 16) / 2 ^ 8) from ushN (k := 8) (by omega) (by omega)]
  rw [if_pos (show nI ((u / 2 ^ 16) / 2 ^ 8) < 16 from nI_lt (a := ((u / 2 ^ 16) / 2 ^ 8)) (b := 16) (by omega) (by omega))]
  rw [if_pos (show nI ((u / 2 ^ 16) / 2 ^ 8) < 4 from nI_lt (a := ((u / 2 ^ 16) / 2 ^ 8)) (b := 4) (by omega) (by omega))]
  rw [show ush (nI (((u / 2 ^ 16) / 2 ^ 8))) 1 = nI (((u / 2 ^ 16) / 2 ^ 8) / 2 ^ 1) from ushN (k := 1) (by omega) (by omega)]
  rw [show ((u / 2 ^ 16) / 2 ^ 8) / 2 ^ 1 = 1 from by omega]
  rfl
theorem rz_26 {u : Nat} (h1 : 2 ^ 26 ≤ u) (h2 : u < 2 ^ (26 + 1)) : f_Ref_zeros (nI u) = 5 := by
  unfold f_Ref_zeros
  rw [if_pos (show f_Ref_bit (nI u) 31 = 0 from zb0 31 (by omega) (by omega)), if_pos (show f_Ref_bit (nI u) 30 = 0 from zb0 30 (by omega) (by omega)), if_pos (show f_Ref_bit (nI u) 29 = 0 from zb0 29 (by omega) (by omega)), if_pos (show f_Ref_bit (nI u) 28 = 0 from zb0 28 (by omega) (by omega)), if_pos (show f_Ref_bit (nI u) 27 = 0 from zb0 27 (by omega) (by omega)), if_neg (show ¬ f_Ref_bit (nI u) 26 = 0 from zb1 26 (by omega) h1 h2)]
theorem nz_26 {u : Nat} (h1 : 2 ^ 26 ≤ u) (h2 : u < 2 ^ (26 + 1)) : f_Int_numberOfLeadingZeros (nI u) = 5 := by
  unfold f_Int_numberOfLeadingZeros
  rw [if_pos (show (0 : Int32) < nI u from nI_lt (a := 0) (b := u) (by omega) (by omega))]
  rw [if_neg (show ¬ nI u < 65536 from nI_nlt (a := u) (b := 65536) (by omega) (by omega))]
  rw [show ush (nI (u)) 16 = nI (u / 2 ^ 16) from ushN (k := 16) (by omega) (by omega)]
  rw [if_neg (show ¬ nI (u / 2 ^ 16) < 256 from nI_nlt (a := (u / 2 ^ 16)) (b := 256) (by omega) (by omega))]
  rw [show ush (nI ((u / 2 ^ 16))) 8 = nI ((u / 2 ^ 16) / 2 ^ 8) from ushN (k := 8) (by omega) (by omega)]
  rw [if_pos (show nI ((u / 2 ^ 16) / 2 ^ 8) < 16 from nI_lt (a := ((u / 2 ^ 16) / 2 ^ 8)) (b := 16) (by omega) (by omega))]
  rw [if_neg (show ¬ nI ((u / 2 ^ 16) / 2 ^ 8) < 4 from nI_nlt (a := ((u / 2 ^ 16) / 2 ^ 8)) (b := 4) (by omega) (by omega))]
  rw [show ush (nI (((u / 2 ^ 16) / 2 ^ 8))) 2 = nI (((u / 2 ^ 16) / 2 ^ 8) / 2 ^ 2) from ushN (k := 2) (by omega) (by omega)]
  rw [show ush (nI ((((u / 2 ^ 16) / 2 ^ 8) / 2 ^ 2))) 1 = nI ((((u / 2 ^ 16) / 2 ^ 8) / 2 ^ 2) / 2 ^ 1) from ushN (k := 1) (by omega) (by omega)]
  rw [show (((u / 2 ^ 16) / 2 ^ 8) / 2 ^ 2) / 2 ^ 1 = 0 from by omega]
  rfl
theorem rz_27 {u : Nat} (h1 : 2 ^ 27 ≤ u) (h2 : u < 2 ^ (27 + 1)) : f_Ref_zeros (nI u) = 4 := by
  unfold f_Ref_zeros
  rw [if_pos (show f_Ref_bit (nI u) 31 = 0 from zb0 31 (by omega) (by omega)), if_pos (show f_Ref_bit (nI u) 30 = 0 from zb0 30 (by omega) (by omega)), if_pos (show f_Ref_bit (nI u) 29 = 0 from zb0 29 (by omega) (by omega)), if_pos (show f_Ref_bit (nI u) 28 = 0 from zb0 28 (by omega) (by omega)), if_neg (show ¬ f_Ref_bit (nI u) 27 = 0 from zb1 27 (by omega) h1 h2)]
theorem nz_27 {u : Nat} (h1 : 2 ^ 27 ≤ u) (h2 : u < 2 ^ (27 + 1)) : f_Int_numberOfLeadingZeros (nI u) = 4 := by
  unfold f_Int_numberOfLeadingZeros
  rw [if_pos (show (0 : Int32) < nI u from nI_lt (a := 0) (b := u) (by omega) (by omega))]
  rw [if_neg (show ¬ nI u < 65536 from nI_nlt (a := u) (b := 65536) (by omega) (by omega))]
  rw [show ush (nI (u)) 16 = nI (u / 2 ^ 16) from ushN (k := 16) (by omega) (by omega)]
  rw [if_neg (show ¬ nI (u / 2 ^ 16) < 256 from nI_nlt (a := (u / 2 ^ 16)) (b := 256) (by omega) (by omega))]
  rw [show ush (nI ((u / 2 ^ 16))) 8 = nI ((u / 2 ^ 16) / 2 ^ 8) from ushN (k := 8) (by omega) (by omega)]
  rw [if_pos (show nI ((u / 2 ^ 16) / 2 ^ 8) < 16 from nI_lt (a := ((u / 2 ^ 16) / 2 ^ 8)) (b := 16) (by omega) (by omega))]
  rw [if_neg (show ¬ nI ((u / 2 ^ 16) / 2 ^ 8) < 4 from nI_nlt (a := ((u / 2 ^ 16) / 2 ^ 8)) (b := 4) (by omega) (by omega))]
  rw [show ush (nI (((u / 2 ^ 16) / 2 ^ 8))) 2 = nI (((u / 2 ^ 16) / 2 ^ 8) / 2 ^ 2) from ushN (k := 2) (by omega) (by omega)]
  rw [show ush (nI ((((u / 2 ^ 16) / 2 ^ 8) / 2 ^ 2))) 1 = nI ((((u / 2 ^ 16) / 2 ^ 8) / 2 ^ 2) / 2 ^ 1) from ushN (k := 1) (by omega) (by omega)]
  rw [show (((u / 2 ^ 16) / 2 ^ 8) / 2 ^ 2) / 2 ^ 1 = 1 from by omega]
  rfl
theorem rz_28 {u : Nat} (h1 : 2 ^ 28 ≤ u) (h2 : u < 2 ^ (28 + 1)) : f_Ref_zeros (nI u) = 3 := by
  unfold f_Ref_zeros
  rw [if_pos (show f_Ref_bit (nI u) 31 = 0 from zb0 31 (by omega) (by omega)), if_pos (show f_Ref_bit (nI u) 30 = 0 from zb0 30 (by omega) (by omega)), if_pos (show f_Ref_bit (nI u) 29 = 0 from zb0 29 (by omega) (by omega)), if_neg (show ¬ f_Ref_bit (nI u) 28 = 0 from zb1 28 (by omega) h1 h2)]
theorem nz_28 {u : Nat} (h1 : 2 ^ 28 ≤ u) (h2 : u < 2 ^ (28 + 1)) : f_Int_numberOfLeadingZeros (nI u) = 3 := by
  unfold f_Int_numberOfLeadingZeros
  rw [if_pos (show (0 : Int32) < nI u from nI_lt (a := 0) (b := u) (by omega) (by omega))]
  rw [if_neg (show ¬ nI u < 65536 from nI_nlt (a := u) (b := 65536) (by omega) (by omega))]
  rw [show ush (nI (u)) 16 = nI (u / 2 ^ 16) from ushN (k := 16) (by omega) (by omega)]
  rw [if_neg (show ¬ nI (u / 2 ^ 16) < 256 from nI_nlt (a := (u / 2 ^ 16)) (b := 256) (by omega) (by omega))]
  rw [show ush (nI ((u / 2 ^ 16))) 8 = nI ((u / 2 ^ 16) / 2 ^ 8) from ushN (k := 8) (by omega) (by omega)]
  rw [if_neg (show ¬ nI ((u / 2 ^ 16) / 2 ^ 8) < 16 from nI_nlt (a := ((u / 2 ^ 16) / 2 ^ 8)) (b := 16) (by omega) (by omega))]
  rw [show ush (nI (((u / 2 ^ 16) / 2 ^ 8))) 4 = nI (((u / 2 ^ 16) / 2 ^ 8) / 2 ^ 4) from ushN (k := 4) (by omega) (by omega)]
  rw [if_pos (show nI (((u / 2 ^ 16) / 2 ^ 8) / 2 ^ 4) < 4 from nI_lt (a := (((u / 2 ^ 16) / 2 ^ 8) / 2 ^ 4)) (b := 4) (by omega) (by omega))]
  rw [show ush (nI ((((u / 2 ^ 16) / 2 ^ 8) / 2 ^ 4))) 1 = nI ((((u / 2 ^ 16) / 2 ^ 8) / 2 ^ 4) / 2 ^ 1) from ushN (k := 1) (by omega) (by omega)]
  rw [show (((u / 2 ^ 16) / 2 ^ 8) / 2 ^ 4) / 2 ^ 1 = 0 from by omega]
  rfl
theorem rz_29 {u : Nat} (h1 : 2 ^ 29 ≤ u) (h2 : u < 2 ^ (29 + 1)) : f_Ref_zeros (nI u) = 2 := by
  unfold f_Ref_zeros
  rw [if_pos (show f_Ref_bit (nI u) 31 = 0 from zb0 31 (by omega) (by omega)), if_pos (show f_Ref_bit (nI u) 30 = 0 from zb0 30 (by omega) (by omega)), if_neg (show ¬ f_Ref_bit (nI u) 29 = 0 from zb1 29 (by omega) h1 h2)]
theorem nz_29 {u : Nat} (h1 : 2 ^ 29 ≤ u) (h2 : u < 2 ^ (29 + 1)) : f_Int_numberOfLeadingZeros (nI u) = 2 := by
  unfold f_Int_numberOfLeadingZeros
  rw [if_pos (show (0 : Int32) < nI u from nI_lt (a := 0) (b := u) (by omega) (by omega))]
  rw [if_neg (show ¬ nI u < 65536 from nI_nlt (a := u) (b := 65536) (by omega) (by omega))]
  rw [show ush (nI (u)) 16 = nI (u / 2 ^ 16) from ushN (k := 16) (by omega) (by omega)]
  rw [if_neg (show ¬ nI (u / 2 ^ 16) < 256 from nI_nlt (a := (u / 2 ^ 16)) (b := 256) (by omega) (by omega))]
  rw [show ush (nI ((u / 2 ^ 16))) 8 = nI ((u / 2 ^ 16) / 2 ^ 8) from ushN (k := 8) (by omega) (by omega)]
  rw [if_neg (show ¬ nI ((u / 2 ^ 16) / 2 ^ 8) < 16 from nI_nlt (a := ((u / 2 ^ 16) / 2 ^ 8)) (b := 16) (by omega) (by omega))]
  rw [show ush (nI (((u / 2 ^ 16) / 2 ^ 8))) 4 = nI (((u / 2 ^ 16) / 2 ^ 8) / 2 ^ 4) from ushN (k := 4) (by omega) (by omega)]
  rw [if_pos (show nI (((u / 2 ^ 16) / 2 ^ 8) / 2 ^ 4) < 4 from nI_lt (a := (((u / 2 ^ 16) / 2 ^ 8) / 2 ^ 4)) (b := 4) (by omega) (by omega))]
  rw [show ush (nI ((((u / 2 ^ 16) / 2 ^ 8) / 2 ^ 4))) 1 = nI ((((u / 2 ^ 16) / 2 ^ 8) / 2 ^ 4) / 2 ^ 1) from ushN (k := 1) (by omega) (by omega)]
  rw [show (((u / 2 ^ 16) / 2 ^ 8) / 2 ^ 4) / 2 ^ 1 = 1 from by omega]
  rfl
theorem rz_30 {u : Nat} (h1 : 2 ^ 30 ≤ u) (h2 : u < 2 ^ (30 + 1)) : f_Ref_zeros (nI u) = 1 := by
  unfold f_Ref_zeros
  rw [if_pos (show f_Ref_bit (nI u) 31 = 0 from zb0 31 (by omega) (by omega)), if_neg (show ¬ f_Ref_bit (nI u) 30 = 0 from zb1 30 (by omega) h1 h2)]
theorem nz_30 {u : Nat} (h1 : 2 ^ 30 ≤ u) (h2 : u < 2 ^ (30 + 1)) : f_Int_numberOfLeadingZeros (nI u) = 1 := by
  unfold f_Int_numberOfLeadingZeros
  rw [if_pos (show (0 : Int32) < nI u from nI_lt (a := 0) (b := u) (by omega) (by omega))]
  rw [if_neg (show ¬ nI u < 65536 from nI_nlt (a := u) (b := 65536) (by omega) (by omega))]
  rw [show ush (nI (u)) 16 = nI (u / 2 ^ 16) from ushN (k := 16) (by omega) (by omega)]
  rw [if_neg (show ¬ nI (u / 2 ^ 16) < 256 from nI_nlt (a := (u / 2 ^ 16)) (b := 256) (by omega) (by omega))]
  rw [show ush (nI ((u / 2 ^ 16))) 8 = nI ((u / 2 ^ 16) / 2 ^ 8) from ushN (k := 8) (by omega) (by omega)]
  rw [if_neg (show ¬ nI ((u / 2 ^ 16) / 2 ^ 8) < 16 from nI_nlt (a := ((u / 2 ^ 16) / 2 ^ 8)) (b := 16) (by omega) (by omega))]
  rw [show ush (nI (((u / 2 ^ 16) / 2 ^ 8))) 4 = nI (((u / 2 ^ 16) / 2 ^ 8) / 2 ^ 4) from ushN (k := 4) (by omega) (by omega)]
  rw [if_neg (show ¬ nI (((u / 2 ^ 16) / 2 ^ 8) / 2 ^ 4) < 4 from nI_nlt (a := (((u / 2 ^ 16) / 2 ^ 8) / 2 ^ 4)) (b := 4) (by omega) (by omega))]
  rw [show ush (nI ((((u / 2 ^ 16) / 2 ^ 8) / 2 ^ 4))) 2 = nI ((((u / 2 ^ 16) / 2 ^ 8) / 2 ^ 4) / 2 ^ 2) from ushN (k := 2) (by omega) (by omega)]
  rw [show ush (nI (((((u / 2 ^ 16) / 2 ^ 8) / 2 ^ 4) / 2 ^ 2))) 1 = nI (((((u / 2 ^ 16) / 2 ^ 8) / 2 ^ 4) / 2 ^ 2) / 2 ^ 1) from ushN (k := 1) (by omega) (by omega)]
  rw [show ((((u / 2 ^ 16) / 2 ^ 8) / 2 ^ 4) / 2 ^ 2) / 2 ^ 1 = 0 from by omega]
  rfl
theorem rz_31 {u : Nat} (h1 : 2 ^ 31 ≤ u) (h2 : u < 2 ^ (31 + 1)) : f_Ref_zeros (nI u) = 0 := by
  unfold f_Ref_zeros
  rw [if_neg (show ¬ f_Ref_bit (nI u) 31 = 0 from zb1 31 (by omega) h1 h2)]
theorem nz_31 {u : Nat} (h1 : 2 ^ 31 ≤ u) (h2 : u < 2 ^ (31 + 1)) : f_Int_numberOfLeadingZeros (nI u) = 0 := by
  unfold f_Int_numberOfLeadingZeros
  have n0 : ¬ (0 : Int32) < nI u := by
    intro q
    rw [Int32.lt_iff_toInt_lt, Int32.toInt_zero, un_toInt] at q
    have e : un (nI u) = u := pk_tn (by omega)
    rw [e, if_neg (by omega)] at q
    omega
  have n1 : ¬ nI u = 0 := by
    intro q
    have e : un (nI u) = u := pk_tn (by omega)
    rw [q] at e
    have e2 : un 0 = 0 := by decide
    omega
  rw [if_neg n0, if_neg n1]
theorem un_nI (x : Int32) : x = nI (un x) := by
  apply Int32.toBitVec_inj.mp
  apply BitVec.eq_of_toNat_eq
  show x.toBitVec.toNat = (BitVec.ofNat 32 (un x)).toNat
  rw [BitVec.toNat_ofNat, Nat.mod_eq_of_lt (un_lt x)]
  rfl
theorem zeros_eq (x : Int32) : f_Ref_zeros x = f_Int_numberOfLeadingZeros x := by
  have hl := un_lt x
  rw [un_nI x]
  generalize un x = u at hl
  by_cases h0 : u = 0
  · subst h0; decide +kernel
  by_cases c0 : u < 2 ^ 1
  · rw [rz_0 (by omega) (by omega), nz_0 (by omega) (by omega)]
  by_cases c1 : u < 2 ^ 2
  · rw [rz_1 (by omega) (by omega), nz_1 (by omega) (by omega)]
  by_cases c2 : u < 2 ^ 3
  · rw [rz_2 (by omega) (by omega), nz_2 (by omega) (by omega)]
  by_cases c3 : u < 2 ^ 4
  · rw [rz_3 (by omega) (by omega), nz_3 (by omega) (by omega)]
  by_cases c4 : u < 2 ^ 5
  · rw [rz_4 (by omega) (by omega), nz_4 (by omega) (by omega)]
  by_cases c5 : u < 2 ^ 6
  · rw [rz_5 (by omega) (by omega), nz_5 (by omega) (by omega)]
  by_cases c6 : u < 2 ^ 7
  · rw [rz_6 (by omega) (by omega), nz_6 (by omega) (by omega)]
  by_cases c7 : u < 2 ^ 8
  · rw [rz_7 (by omega) (by omega), nz_7 (by omega) (by omega)]
  by_cases c8 : u < 2 ^ 9
  · rw [rz_8 (by omega) (by omega), nz_8 (by omega) (by omega)]
  by_cases c9 : u < 2 ^ 10
  · rw [rz_9 (by omega) (by omega), nz_9 (by omega) (by omega)]
  by_cases c10 : u < 2 ^ 11
  · rw [rz_10 (by omega) (by omega), nz_10 (by omega) (by omega)]
  by_cases c11 : u < 2 ^ 12
  · rw [rz_11 (by omega) (by omega), nz_11 (by omega) (by omega)]
  by_cases c12 : u < 2 ^ 13
  · rw [rz_12 (by omega) (by omega), nz_12 (by omega) (by omega)]
  by_cases c13 : u < 2 ^ 14
  · rw [rz_13 (by omega) (by omega), nz_13 (by omega) (by omega)]
  by_cases c14 : u < 2 ^ 15
  · rw [rz_14 (by omega) (by omega), nz_14 (by omega) (by omega)]
  by_cases c15 : u < 2 ^ 16
  · rw [rz_15 (by omega) (by omega), nz_15 (by omega) (by omega)]
  by_cases c16 : u < 2 ^ 17
  · rw [rz_16 (by omega) (by omega), nz_16 (by omega) (by omega)]
  by_cases c17 : u < 2 ^ 18
  · rw [rz_17 (by omega) (by omega), nz_17 (by omega) (by omega)]
  by_cases c18 : u < 2 ^ 19
  · rw [rz_18 (by omega) (by omega), nz_18 (by omega) (by omega)]
  by_cases c19 : u < 2 ^ 20
  · rw [rz_19 (by omega) (by omega), nz_19 (by omega) (by omega)]
  by_cases c20 : u < 2 ^ 21
  · rw [rz_20 (by omega) (by omega), nz_20 (by omega) (by omega)]
  by_cases c21 : u < 2 ^ 22
  · rw [rz_21 (by omega) (by omega), nz_21 (by omega) (by omega)]
  by_cases c22 : u < 2 ^ 23
  · rw [rz_22 (by omega) (by omega), nz_22 (by omega) (by omega)]
  by_cases c23 : u < 2 ^ 24
  · rw [rz_23 (by omega) (by omega), nz_23 (by omega) (by omega)]
  by_cases c24 : u < 2 ^ 25
  · rw [rz_24 (by omega) (by omega), nz_24 (by omega) (by omega)]
  by_cases c25 : u < 2 ^ 26
  · rw [rz_25 (by omega) (by omega), nz_25 (by omega) (by omega)]
  by_cases c26 : u < 2 ^ 27
  · rw [rz_26 (by omega) (by omega), nz_26 (by omega) (by omega)]
  by_cases c27 : u < 2 ^ 28
  · rw [rz_27 (by omega) (by omega), nz_27 (by omega) (by omega)]
  by_cases c28 : u < 2 ^ 29
  · rw [rz_28 (by omega) (by omega), nz_28 (by omega) (by omega)]
  by_cases c29 : u < 2 ^ 30
  · rw [rz_29 (by omega) (by omega), nz_29 (by omega) (by omega)]
  by_cases c30 : u < 2 ^ 31
  · rw [rz_30 (by omega) (by omega), nz_30 (by omega) (by omega)]
  by_cases c31 : u < 2 ^ 32
  · rw [rz_31 (by omega) (by omega), nz_31 (by omega) (by omega)]
  omega
