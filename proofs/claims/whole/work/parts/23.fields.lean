theorem upd_upd (f : Nat → Int32) (k : Nat) (a b : Int32) : upd (upd f k a) k b = upd f k b := by
  funext j
  by_cases h : j = k
  · subst h; simp [upd]
  · simp [upd, h]
theorem upd_at (f : Nat → Int32) (k : Nat) (a : Int32) : upd f k a k = a := pk_us
theorem upd_ne (f : Nat → Int32) {k j : Nat} (a : Int32) (h : j ≠ k) : upd f k a j = f j := pk_un h
theorem upd_self (f : Nat → Int32) (k : Nat) : upd f k (f k) = f := by
  funext j
  by_cases h : j = k
  · subst h; simp [upd]
  · simp [upd, h]
theorem upd_comm (f : Nat → Int32) {k j : Nat} (a b : Int32) (h : k ≠ j) : upd (upd f k a) j b = upd (upd f j b) k a := by
  funext q
  by_cases h1 : q = j
  · subst h1
    have : ¬ q = k := fun e => h e.symm
    simp [upd, this]
  · simp [upd, h1]
theorem fld_bits (d : Int32) (M : Nat) (hM : M < 32) : shl (ush d (nI M) &&& 15) (nI M) = d &&& shl 15 (nI M) := by
  apply b_ext
  intro i hi
  rw [bshl M hM _ hi, b_and, b_and, bshl M hM _ hi, bush M hM d]
  by_cases h : M ≤ i
  · rw [show M + (i - M) = i from by omega]
    simp [h]
  · simp [h]
theorem has0 (p x : Int32) (k : Nat) (hk : k < 32) (hp : p = shl 1 (nI k)) : f_Ins_has p x = 0 ↔ bt x k = false := by
  unfold f_Ins_has
  rw [hp]
  by_cases h : (x &&& shl 1 (nI k)) = 0
  · rw [if_pos h]
    exact ⟨fun _ => (mtest x k hk).mp h, fun _ => rfl⟩
  · rw [if_neg h]
    constructor
    · intro q; exact absurd q (by decide)
    · intro q; exact absurd ((mtest x k hk).mpr q) h
theorem fld_step (c d x K F : Int32) (hF : F = d &&& K) : ((((c &&& (x ^^^ -1)) ||| (d &&& x)) &&& (K ^^^ -1)) ||| F) = ((c &&& ((x ||| K) ^^^ -1)) ||| (d &&& (x ||| K))) := by
  subst hF
  apply b_ext
  intro i hi
  simp only [b_or, b_and, b_xor, b_m1 i hi]
  cases bt c i <;> cases bt d i <;> cases bt x i <;> cases bt K i <;> rfl
theorem flds (rg rs : Nat → Int32) (rl rc rd rn rf : Int32) (hrd : vp_in rd 32) : ∀ (n j : Nat) (x2 : Int32), j + n = 8 →
    f_Ref_system_lp rg rl rc rd rn rf n j (upd rs 2 ((rs 2 &&& (x2 ^^^ -1)) ||| (rg (ix rd) &&& x2))) = (1, rg, f_Ctl_keepFields_lp rg rs rc rd n j x2, rl, rn, rf) := by
  intro n
  induction n with
  | zero =>
    intro j x2 hj
    rw [f_Ref_system_lp, f_Ctl_keepFields_lp]
    unfold f_Sta_keep f_Sta_read f_Sta_register
    rw [and31 hrd]
    rfl
  | succ n ih =>
    intro j x2 hj
    rw [f_Ref_system_lp, f_Ctl_keepFields_lp]
    have e1 : (19 : Int32) - nI j = nI (19 - j) := by
      rw [show (19 : Int32) = nI 19 from rfl, pk_sub (by omega)]
    have e2 : (28 : Int32) - 4 * nI j = nI (28 - 4 * j) := by
      rw [show (4 : Int32) = nI 4 from rfl, pk_mul, show (28 : Int32) = nI 28 from rfl, pk_sub (by omega)]
    rw [e1, e2]
    by_cases h : bt rc (19 - j) = false
    · rw [if_pos ((rbit0 rc _ (by omega)).mpr h), if_pos ((has0 _ rc _ (by omega) rfl).mpr h)]
      exact ih (j + 1) x2 (by omega)
    · rw [if_neg (fun q => h ((rbit0 rc _ (by omega)).mp q)), if_neg (fun q => h ((has0 _ rc _ (by omega) rfl).mp q))]
      have e3 : f_Ref_fieldSet (nI j) (ush (rg (ix rd)) (nI (28 - 4 * j)) &&& 15) (upd rs 2 ((rs 2 &&& (x2 ^^^ -1)) ||| (rg (ix rd) &&& x2))) = upd rs 2 ((rs 2 &&& ((x2 ||| shl 15 (nI (28 - 4 * j))) ^^^ -1)) ||| (rg (ix rd) &&& (x2 ||| shl 15 (nI (28 - 4 * j))))) := by
        unfold f_Ref_fieldSet
        rw [upd_upd, upd_at, e2, fld_bits _ _ (by omega), fld_step _ _ _ _ _ rfl]
      rw [e3]
      exact ih (j + 1) _ (by omega)
theorem fields_eq (rg rs : Nat → Int32) (rl rc rd rn rf : Int32) (hrd : vp_in rd 32) : f_Ref_system_lp rg rl rc rd rn rf 8 0 rs = (1, rg, f_Ctl_keepFields rg rs rc rd, rl, rn, rf) := by
  have h := flds rg rs rl rc rd rn rf hrd 8 0 0 rfl
  have e : upd rs 2 ((rs 2 &&& ((0 : Int32) ^^^ -1)) ||| (rg (ix rd) &&& 0)) = rs := by
    have e1 : (rs 2 &&& ((0 : Int32) ^^^ -1)) ||| (rg (ix rd) &&& 0) = rs 2 := by
      apply b_ext
      intro i hi
      simp only [b_or, b_and, b_xor, b_m1 i hi, b_0]
      simp
    rw [e1, upd_self]
  rw [e] at h
  exact h
