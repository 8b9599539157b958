set_option maxHeartbeats 4000000 in
set_option maxRecDepth 100000 in
theorem mask_eq : ∀ m, m < 32 → ∀ n, n < 32 → f_Ref_mask (nI m) (nI n) = f_Log_mask (nI m) (nI n) := by decide +kernel
theorem negsh : ∀ k, k < 32 → k ≠ 0 → ((-(nI k)).toUInt32 &&& Int32.toUInt32 31) = ((nI (32 - k)).toUInt32 &&& Int32.toUInt32 31) := by decide +kernel
theorem bt_rot1 (x : Int32) {i : Nat} (hi : i < 32) : bt (shl x 1 ||| ush x 31) i = bt x ((i + 31) % 32) := by
  rw [b_or, show (1 : Int32) = nI 1 from rfl, show (31 : Int32) = nI 31 from rfl, bshl 1 (by omega) x hi, bush 31 (by omega) x i]
  by_cases h : i = 0
  · subst h; simp
  · rw [b_big (i := 31 + i) (by omega), show (i + 31) % 32 = i - 1 from by omega]
    simp; omega
theorem bt_turned : ∀ (n j : Nat) (x : Int32) (i : Nat), n ≤ 32 → i < 32 → bt (f_Ref_turned_lp n j x) i = bt x ((i + 32 - n) % 32) := by
  intro n
  induction n with
  | zero => intro j x i hn hi; rw [f_Ref_turned_lp, show (i + 32 - 0) % 32 = i from by omega]
  | succ n ih =>
    intro j x i hn hi
    rw [f_Ref_turned_lp, ih (j + 1) _ i (by omega) hi, bt_rot1 _ (by omega)]
    congr 1
    omega
theorem turned_eq (x : Int32) {k : Nat} (hk : k < 32) : f_Ref_turned x (nI k) = f_Int_rotateLeft x (nI k) := by
  unfold f_Ref_turned f_Int_rotateLeft
  apply b_ext
  intro i hi
  have e : ix (nI k) = k := nI_clamp (by omega)
  rw [e, bt_turned k 0 x i (by omega) hi, b_or, bshl k hk x hi]
  by_cases h0 : k = 0
  · subst h0
    have e2 : ush x (-nI 0) = x := by
      apply b_ext
      intro q hq
      rw [show -nI 0 = nI 0 from rfl, bush 0 (by omega) x q, Nat.zero_add]
    rw [e2, show (i + 32 - 0) % 32 = i from by omega]
    simp
  · have e2 : ush x (-nI k) = ush x (nI (32 - k)) := by
      unfold ush
      rw [negsh k hk h0]
    rw [e2, bush (32 - k) (by omega) x i]
    by_cases h : k ≤ i
    · rw [b_big (i := 32 - k + i) (by omega), show (i + 32 - k) % 32 = i - k from by omega]
      simp [h]
    · rw [show (i + 32 - k) % 32 = 32 - k + i from by omega]
      simp [h]
