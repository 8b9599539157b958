theorem nb0 : narrow .boolean (.int 0) = .int 0 := rfl
theorem nb1 : narrow .boolean (.int 1) = .int 1 := rfl
theorem lp_z {B j : Nat} (hB : B < 2 ^ 31) (hj : j + 0 = B) : nI B ≤ nI j := by
  have e : j = B := by omega
  rw [e]; exact nI_le (Nat.le_refl _) hB
theorem lp_s {B j n : Nat} (hB : B < 2 ^ 31) (hj : j + (n + 1) = B) : ¬ nI B ≤ nI j := nI_ge (by omega) hB
theorem ix_nI {x : Int32} (h : ¬ x < 0) : x = nI (ix x) := by
  obtain ⟨j, hj, e⟩ := nI_of h
  rw [e]
  unfold ix
  rw [nI_clamp hj]
theorem ix_lt (x : Int32) : ix x < 2 ^ 31 := by
  have h := Int32.toInt_lt x
  unfold ix
  rw [Int32.toNatClampNeg]
  omega
theorem lpv_z {x : Int32} {j : Nat} (h : ¬ x < 0) (hj : j + 0 = ix x) : x ≤ nI j := by
  have e : j = ix x := by omega
  rw [e, ← ix_nI h]
  exact Int32.le_refl x
theorem lpv_s {x : Int32} {j n : Nat} (h : ¬ x < 0) (hj : j + (n + 1) = ix x) : ¬ x ≤ nI j := by
  have hl := ix_lt x
  intro q
  rw [ix_nI h] at q
  exact nI_ge (a := j) (b := ix x) (by omega) hl q
theorem lp_pos {x : Int32} (h : ¬ x < 1) : ¬ x < 0 := by
  intro q
  rw [Int32.lt_iff_toInt_lt] at h q
  rw [Int32.toInt_zero] at q
  have e : (1 : Int32).toInt = 1 := by decide
  omega
theorem ldiv_ne {b : Int32} (h : ¬ b = 0) : ¬ (b.toInt64 &&& 4294967295) = 0 := by
  intro q
  apply h
  have h2 : (b.toInt64 &&& 4294967295).toInt32 = b := by
    rw [Int64.toInt32_and, Int32.toInt32_toInt64]
    exact Int32.and_neg_one
  rw [← h2, q]
  rfl
theorem ix_seg (x : Int32) : vp_in (32 + (x &&& 15)) 48 := by
  obtain ⟨j, hj, e⟩ := pk_andE x (m := 15) 4 (by decide)
  rw [e, show (32 : Int32) = nI 32 from rfl, nI_add]
  exact vp_in_nI (by omega) (by decide)
theorem ix_seg2 (x : Int32) : vp_in (32 + ush x 28) 48 := by
  have h := pk_ushr x 28 28 (by decide)
  have hl : x.toBitVec.toNat < 2 ^ 32 := x.toBitVec.isLt
  have e : ush x 28 = nI (x.toBitVec.toNat / 2 ^ 28) := by
    apply Int32.toBitVec_inj.mp
    apply BitVec.eq_of_toNat_eq
    unfold ush
    rw [h, pk_tn (by omega)]
  rw [e, show (32 : Int32) = nI 32 from rfl, nI_add]
  exact vp_in_nI (by omega) (by decide)
theorem ix_search (x y k : Int32) (h0 : 0 ≤ k.toInt) (h1 : k.toInt ≤ 14) : vp_in (((x &&& 64512) + 64 * (y &&& 15)) / 4 + k) 16384 := by
  obtain ⟨b, hb, eb⟩ := pk_andE y (m := 15) 4 (by decide)
  have e1 : ∃ a, a ≤ 64512 ∧ x &&& 64512 = nI a := by
    refine ⟨(x &&& 64512).toBitVec.toNat, ?_, ?_⟩
    · show (x.toBitVec &&& 64512#32).toNat ≤ 64512
      rw [BitVec.toNat_and]
      exact Nat.and_le_right
    · apply Int32.toBitVec_inj.mp
      apply BitVec.eq_of_toNat_eq
      rw [pk_tn (BitVec.isLt _)]
  obtain ⟨a, ha, ea⟩ := e1
  have ek : k = nI k.toInt.toNat := by
    apply Int32.toInt_inj.mp
    rw [nI_toInt (by omega)]
    omega
  rw [ea, eb, ek, show (64 : Int32) = nI 64 from rfl, pk_mul, nI_add, show (4 : Int32) = nI 4 from rfl, pk_div (by omega) (by decide) (by decide), nI_add]
  exact vp_in_nI (by omega) (by decide)
theorem ix_rng {x : Int32} {n : Nat} {N : Int32} (h0 : ¬ x < 0) (h : x < N) (hN : N.toInt = n := by decide) : vp_in x n := by
  rw [vp_in_iff]
  rw [Int32.lt_iff_toInt_lt, Int32.toInt_zero] at h0
  rw [Int32.lt_iff_toInt_lt] at h
  omega
theorem ix_rng2 {x : Int32} {n : Nat} {N : Int32} (h0 : ¬ x < 0) (h : ¬ N < x) (hN : N.toInt + 1 = n := by decide) : vp_in x n := by
  rw [vp_in_iff]
  rw [Int32.lt_iff_toInt_lt, Int32.toInt_zero] at h0
  rw [Int32.lt_iff_toInt_lt] at h
  omega
theorem ix_rng3 {x : Int32} {n : Nat} {N : Int32} (h0 : ¬ x < 0) (h : x ≤ N) (hN : N.toInt + 1 = n := by decide) : vp_in x n := by
  rw [vp_in_iff]
  rw [Int32.lt_iff_toInt_lt, Int32.toInt_zero] at h0
  rw [Int32.le_iff_toInt_le] at h
  omega
def isB (v : Int32) : Prop := v = 0 ∨ v = 1
theorem ib0 : isB 0 := Or.inl rfl
theorem ib1 : isB 1 := Or.inr rfl
theorem nb_of {v : Int32} (h : isB v) : narrow .boolean (.int v) = .int v := by
  rcases h with rfl | rfl <;> rfl
section KJ
variable {p : Program} {l : Launch} {e : Env} {R : Room} {s : State} {m : MethodId} {args : Array Value} {below : List Frame} {meth : Method} {c : Code} {H : Heap} {locs : List Loc} {cells slots : Nat} {Q : State → Prop} {pc nL : Nat} {ls : Array Slot} {rest st0 : List Value}
theorem k_join2 {c0 : Prop} [Decidable c0] {x1 x2 : Int32} (J : Nat) (kk : W p l e R s m args below meth c H locs cells slots Q (F0 m J ls (.int (if c0 then x1 else x2) :: rest)))
    (hh : (c0 → W p l e R s m args below meth c H locs cells slots Q (F0 m J ls (.int x1 :: rest))) → (¬ c0 → W p l e R s m args below meth c H locs cells slots Q (F0 m J ls (.int x2 :: rest))) → W p l e R s m args below meth c H locs cells slots Q (F0 m pc ls st0)) : W p l e R s m args below meth c H locs cells slots Q (F0 m pc ls st0) :=
  hh (fun h => by rw [if_pos h] at kk; exact kk) (fun h => by rw [if_neg h] at kk; exact kk)
theorem k_joinL2 {c0 : Prop} [Decidable c0] {x1 x2 : Int32} (J i : Nat) (lr : List (Nat × Value)) (kk : ∀ ls1 : Array Slot, lv_has ls1 nL ((i, .int (if c0 then x1 else x2)) :: lr) → W p l e R s m args below meth c H locs cells slots Q (F0 m J ls1 rest))
    (hh : (c0 → ∀ ls1 : Array Slot, lv_has ls1 nL ((i, .int x1) :: lr) → W p l e R s m args below meth c H locs cells slots Q (F0 m J ls1 rest)) → (¬ c0 → ∀ ls1 : Array Slot, lv_has ls1 nL ((i, .int x2) :: lr) → W p l e R s m args below meth c H locs cells slots Q (F0 m J ls1 rest)) → W p l e R s m args below meth c H locs cells slots Q (F0 m pc ls st0)) : W p l e R s m args below meth c H locs cells slots Q (F0 m pc ls st0) :=
  hh (fun h ls1 hl => kk ls1 (by rw [if_pos h]; exact hl)) (fun h ls1 hl => kk ls1 (by rw [if_neg h]; exact hl))
end KJ
theorem ib_ite {c0 : Prop} [Decidable c0] {α : Type} {a b : Int32 × α} (h1 : isB a.1) (h2 : isB b.1) : isB (if c0 then a else b).1 := by
  split <;> assumption
theorem ib_ite0 {c0 : Prop} [Decidable c0] {a b : Int32} (h1 : isB a) (h2 : isB b) : isB (if c0 then a else b) := by
  split <;> assumption
theorem nb_ite {c0 : Prop} [Decidable c0] {a b : Int32} (h1 : narrow .boolean (.int a) = .int a) (h2 : narrow .boolean (.int b) = .int b) : narrow .boolean (.int (if c0 then a else b)) = .int (if c0 then a else b) := by
  split <;> assumption
theorem pred_ite {α : Type} {P : α → Prop} {c0 : Prop} [Decidable c0] {a b : α} (h1 : P a) (h2 : P b) : P (if c0 then a else b) := by
  split <;> assumption
theorem lt_ite {c0 : Prop} [Decidable c0] {a b N : Int32} (h1 : a < N) (h2 : b < N) : (if c0 then a else b) < N := by
  split <;> assumption
theorem se_s {x : Int32} (h : x < 16383) : x + 1 < 16384 := by
  rw [Int32.lt_iff_toInt_lt] at h ⊢
  have e1 : (16383 : Int32).toInt = 16383 := by decide
  have e2 : (16384 : Int32).toInt = 16384 := by decide
  have e3 : (1 : Int32).toInt = 1 := by decide
  have hl := Int32.le_toInt x
  rw [Int32.toInt_add, e3, Int.bmod_eq_of_le (by omega) (by omega)]
  omega
theorem ix_succ {x : Int32} (h : 0 ≤ x) (h2 : x < 16383) : vp_in (x + 1) 16384 := by
  have h3 := se_s h2
  rw [vp_in_iff]
  rw [Int32.lt_iff_toInt_lt] at h2 h3
  rw [Int32.le_iff_toInt_le, Int32.toInt_zero] at h
  have e1 : (16383 : Int32).toInt = 16383 := by decide
  have e2 : (16384 : Int32).toInt = 16384 := by decide
  have e3 : (1 : Int32).toInt = 1 := by decide
  have e4 : (x + 1).toInt = x.toInt + 1 := by
    rw [Int32.toInt_add, e3, Int.bmod_eq_of_le (by omega) (by omega)]
  omega
theorem se_k (x y k : Int32) (h0 : 0 ≤ k.toInt) (h1 : k.toInt ≤ 14) : ((x &&& 64512) + 64 * (y &&& 15)) / 4 + k < 16383 := by
  obtain ⟨b, hb, eb⟩ := pk_andE y (m := 15) 4 (by decide)
  have e1 : ∃ a, a ≤ 64512 ∧ x &&& 64512 = nI a := by
    refine ⟨(x &&& 64512).toBitVec.toNat, ?_, ?_⟩
    · show (x.toBitVec &&& 64512#32).toNat ≤ 64512
      rw [BitVec.toNat_and]
      exact Nat.and_le_right
    · apply Int32.toBitVec_inj.mp
      apply BitVec.eq_of_toNat_eq
      rw [pk_tn (BitVec.isLt _)]
  obtain ⟨a, ha, ea⟩ := e1
  have ek : k = nI k.toInt.toNat := by
    apply Int32.toInt_inj.mp
    rw [nI_toInt (by omega)]
    omega
  rw [ea, eb, ek, show (64 : Int32) = nI 64 from rfl, pk_mul, nI_add, show (4 : Int32) = nI 4 from rfl, pk_div (by omega) (by decide) (by decide), nI_add]
  exact nI_lt (b := 16383) (by omega) (by decide)
theorem sp_512 (x : Int32) : (if x < 528 then (-1 : Int32) else (if 543 < x then (-1 : Int32) else (x - 512))) < 48 := by
  split
  · decide
  · split
    · decide
    · rename_i h1 h2
      have e1 : (528 : Int32).toInt = 528 := by decide
      have e2 : (543 : Int32).toInt = 543 := by decide
      have h0 : ¬ x < 0 := by
        intro q
        rw [Int32.lt_iff_toInt_lt] at h1 q
        rw [Int32.toInt_zero] at q
        omega
      have e := ix_nI h0
      have hl := ix_lt x
      rw [e] at h1 h2 ⊢
      rw [Int32.lt_iff_toInt_lt, nI_toInt hl] at h1 h2
      rw [show (512 : Int32) = nI 512 from rfl, pk_sub (by omega)]
      exact nI_lt (b := 48) (by omega) (by decide)
theorem ix_rngp {x : Int32} {n : Nat} {N : Int32} (h0 : 0 ≤ x) (h : x < N) (hN : N.toInt = n := by decide) : vp_in x n := by
  rw [vp_in_iff]
  rw [Int32.le_iff_toInt_le, Int32.toInt_zero] at h0
  rw [Int32.lt_iff_toInt_lt] at h
  omega
theorem ix_rng3w {x : Int32} {n : Nat} {N : Int32} (h0 : ¬ x < 0) (h : x ≤ N) (hN : N.toInt + 1 ≤ n) : vp_in x n := by
  rw [vp_in_iff]
  rw [Int32.lt_iff_toInt_lt, Int32.toInt_zero] at h0
  rw [Int32.le_iff_toInt_le] at h
  omega
