theorem tr {α : Type} {N E : Prop} [Decidable N] [Decidable E] (a T : α) : (if N then T else (if E then a else T)) = (if ¬ N ∧ E then a else T) := by
  by_cases h : N
  · rw [if_pos h, if_neg (fun q => q.1 h)]
  · rw [if_neg h]
    by_cases h2 : E
    · rw [if_pos h2, if_pos ⟨h, h2⟩]
    · rw [if_neg h2, if_neg (fun q => h2 q.2)]
theorem base_nf (x y : Int32) : ∃ F, F ≤ 16368 ∧ (x &&& 64512) + 64 * (y &&& 15) = nI (4 * F) := by
  obtain ⟨b, hb, eb⟩ := pk_andE y (m := 15) 4 (by decide)
  have e0 : (x &&& 64512) = nI (un x &&& 64512) := by
    apply Int32.toBitVec_inj.mp
    apply BitVec.eq_of_toNat_eq
    show (x.toBitVec &&& 64512#32).toNat = (BitVec.ofNat 32 (un x &&& 64512)).toNat
    have hl : un x &&& 64512 ≤ 64512 := Nat.and_le_right
    rw [BitVec.toNat_and]
    show un x &&& 64512 = _
    rw [BitVec.toNat_ofNat, Nat.mod_eq_of_lt (by omega)]
  have h4 : (un x &&& 64512) % 2 ^ 2 = 0 := by
    rw [Nat.and_mod_two_pow]
    exact Nat.and_zero _
  have hl : un x &&& 64512 ≤ 64512 := Nat.and_le_right
  refine ⟨((un x &&& 64512) + 64 * b) / 4, by omega, ?_⟩
  rw [e0, eb, show (64 : Int32) = nI 64 from rfl, pk_mul, nI_add]
  congr 1
  omega
theorem at_k {F k : Nat} (hF : F ≤ 16368) (hk : k ≤ 7) (w : Nat → Int32) : f_Mem_at (nI (4 * F) + nI (8 * k)) w = w (ix (nI F + nI (2 * k))) := by
  unfold f_Mem_at
  rw [nI_add, nI_add, pk_andN (by omega) 16 (by decide), Nat.mod_eq_of_lt (by omega), show (2 : Int32) = nI 2 from rfl, ushN (by omega) (by omega)]
  rw [show (4 * F + 8 * k) / 2 ^ 2 = F + 2 * k from by omega]
theorem fe_leaf {F k : Nat} (hF : F ≤ 16368) (hk : k ≤ 7) (d : Int32) : nI (4 * F) + nI (8 * k) + 4 = (if 0 ≤ nI F + nI (2 * k) then 4 * (nI F + nI (2 * k)) + 4 else d) := by
  rw [nI_add, nI_add, if_pos (nI_pos' (by omega)), show (4 : Int32) = nI 4 from rfl, nI_add, pk_mul, nI_add]
  congr 1
  omega
def se8 (B first : Int32) (w : Nat → Int32) : Int32 :=
  if w (ix (B + 0)) = first then (B + 0) else if w (ix (B + 2)) = first then (B + 2) else if w (ix (B + 4)) = first then (B + 4) else if w (ix (B + 6)) = first then (B + 6) else if w (ix (B + 8)) = first then (B + 8) else if w (ix (B + 10)) = first then (B + 10) else if w (ix (B + 12)) = first then (B + 12) else if w (ix (B + 14)) = first then (B + 14) else (-1)
def fe8 (B first : Int32) (w : Nat → Int32) (d : Int32) : Int32 :=
  if f_Mem_at (B + 0) w = first then (B + 0 + 4) else if f_Mem_at (B + 8) w = first then (B + 8 + 4) else if f_Mem_at (B + 16) w = first then (B + 16 + 4) else if f_Mem_at (B + 24) w = first then (B + 24 + 4) else if f_Mem_at (B + 32) w = first then (B + 32 + 4) else if f_Mem_at (B + 40) w = first then (B + 40 + 4) else if f_Mem_at (B + 48) w = first then (B + 48 + 4) else if f_Mem_at (B + 56) w = first then (B + 56 + 4) else d
theorem fe8_eq {F : Nat} (hF : F ≤ 16368) (first : Int32) (w : Nat → Int32) (d : Int32) : fe8 (nI (4 * F)) first w d = (if 0 ≤ se8 (nI F) first w then 4 * se8 (nI F) first w + 4 else d) := by
  unfold fe8 se8
  have a0 : f_Mem_at (nI (4 * F) + 0) w = w (ix (nI F + 0)) := at_k (k := 0) hF (by omega) w
  have a1 : f_Mem_at (nI (4 * F) + 8) w = w (ix (nI F + 2)) := at_k (k := 1) hF (by omega) w
  have a2 : f_Mem_at (nI (4 * F) + 16) w = w (ix (nI F + 4)) := at_k (k := 2) hF (by omega) w
  have a3 : f_Mem_at (nI (4 * F) + 24) w = w (ix (nI F + 6)) := at_k (k := 3) hF (by omega) w
  have a4 : f_Mem_at (nI (4 * F) + 32) w = w (ix (nI F + 8)) := at_k (k := 4) hF (by omega) w
  have a5 : f_Mem_at (nI (4 * F) + 40) w = w (ix (nI F + 10)) := at_k (k := 5) hF (by omega) w
  have a6 : f_Mem_at (nI (4 * F) + 48) w = w (ix (nI F + 12)) := at_k (k := 6) hF (by omega) w
  have a7 : f_Mem_at (nI (4 * F) + 56) w = w (ix (nI F + 14)) := at_k (k := 7) hF (by omega) w
  rw [a0, a1, a2, a3, a4, a5, a6, a7]
  by_cases c0 : w (ix (nI F + 0)) = first
  · simp only [if_pos c0]
    exact fe_leaf (k := 0) hF (by omega) d
  simp only [if_neg c0]
  by_cases c1 : w (ix (nI F + 2)) = first
  · simp only [if_pos c1]
    exact fe_leaf (k := 1) hF (by omega) d
  simp only [if_neg c1]
  by_cases c2 : w (ix (nI F + 4)) = first
  · simp only [if_pos c2]
    exact fe_leaf (k := 2) hF (by omega) d
  simp only [if_neg c2]
  by_cases c3 : w (ix (nI F + 6)) = first
  · simp only [if_pos c3]
    exact fe_leaf (k := 3) hF (by omega) d
  simp only [if_neg c3]
  by_cases c4 : w (ix (nI F + 8)) = first
  · simp only [if_pos c4]
    exact fe_leaf (k := 4) hF (by omega) d
  simp only [if_neg c4]
  by_cases c5 : w (ix (nI F + 10)) = first
  · simp only [if_pos c5]
    exact fe_leaf (k := 5) hF (by omega) d
  simp only [if_neg c5]
  by_cases c6 : w (ix (nI F + 12)) = first
  · simp only [if_pos c6]
    exact fe_leaf (k := 6) hF (by omega) d
  simp only [if_neg c6]
  by_cases c7 : w (ix (nI F + 14)) = first
  · simp only [if_pos c7]
    exact fe_leaf (k := 7) hF (by omega) d
  simp only [if_neg c7]
  exact (if_neg (by decide)).symm
theorem search_se8 (h first : Int32) (rs rm : Nat → Int32) : f_Ref_search h first rs rm = se8 (((rs 10 &&& 64512) + 64 * ((h &&& rs 10) &&& 15)) / 4) first rm := rfl
theorem find_fe8 (v i : Int32) (w sp : Nat → Int32) : f_Map_findEntry v i w sp = fe8 ((sp 10 &&& 64512) + 64 * ((((v &&& 524287) ^^^ i) &&& sp 10) &&& 15)) (((-2147483648) + 128 * v) + ush i 10) w (fe8 ((sp 10 &&& 64512) + 64 * (((((v &&& 524287) ^^^ i) ^^^ -1) &&& sp 10) &&& 15)) ((((-2147483648) + 128 * v) + ush i 10) + 64) w (-1)) := rfl
theorem find_eq (v i : Int32) (w sp : Nat → Int32) : f_Map_findEntry v i w sp = (if 0 ≤ f_Ref_search ((v &&& 524287) ^^^ i) (((-2147483648) + 128 * v) + ush i 10) sp w then 4 * f_Ref_search ((v &&& 524287) ^^^ i) (((-2147483648) + 128 * v) + ush i 10) sp w + 4 else (if 0 ≤ f_Ref_search (((v &&& 524287) ^^^ i) ^^^ -1) ((((-2147483648) + 128 * v) + ush i 10) + 64) sp w then 4 * f_Ref_search (((v &&& 524287) ^^^ i) ^^^ -1) ((((-2147483648) + 128 * v) + ush i 10) + 64) sp w + 4 else -1)) := by
  rw [find_fe8, search_se8, search_se8]
  obtain ⟨F1, h1, e1⟩ := base_nf (sp 10) (((v &&& 524287) ^^^ i) &&& sp 10)
  obtain ⟨F2, h2, e2⟩ := base_nf (sp 10) ((((v &&& 524287) ^^^ i) ^^^ -1) &&& sp 10)
  rw [e1, e2, fe8_eq h1, fe8_eq h2]
  have d1 : nI (4 * F1) / 4 = nI F1 := by
    rw [show (4 : Int32) = nI 4 from rfl, pk_div (by omega) (by decide) (by decide)]
    congr 1
    omega
  have d2 : nI (4 * F2) / 4 = nI F2 := by
    rw [show (4 : Int32) = nI 4 from rfl, pk_div (by omega) (by decide) (by decide)]
    congr 1
    omega
  rw [d1, d2]
theorem read_ix (s : Int32) (sp : Nat → Int32) (h : vp_in s 48) : f_Sta_read s sp = sp (ix s) := by
  unfold f_Sta_read
  rw [and63 h]
theorem has_bit (k : Nat) (hk : k < 32) (m : Int32) (hm : m = shl 1 (nI k)) (sp : Nat → Int32) : f_Sta_has 1 m sp = 0 ↔ bt (sp 1) k = false := by
  unfold f_Sta_has
  rw [show ix ((1 : Int32) &&& 63) = 1 from rfl, hm]
  by_cases h : (sp 1 &&& shl 1 (nI k)) = 0
  · rw [if_pos h]
    exact ⟨fun _ => (mtest _ k hk).mp h, fun _ => rfl⟩
  · rw [if_neg h]
    exact ⟨fun q => absurd q (by decide), fun q => absurd ((mtest _ k hk).mpr q) h⟩
/-- block k counts: valid, and it matches -/
abbrev mk (p0 u : Int32) (sp : Nat → Int32) : Prop := ¬ bt u (if bt (sp 1) 14 = false then 1 else 0) = false ∧ (((p0 ^^^ u) &&& (f_Map_freeBits u ^^^ -1)) &&& -8192) = 0
theorem and_swap (a b c : Int32) : ((a &&& b) &&& c) = ((a &&& c) &&& b) := by
  apply b_ext
  intro i hi
  simp only [b_and]
  cases bt a i <;> cases bt b i <;> cases bt c i <;> rfl
theorem dev_valid (u : Int32) (sp : Nat → Int32) : ((u &&& (if f_Sta_has 1 16384 sp = 0 then (2 : Int32) else 1)) = 0) ↔ bt u (if bt (sp 1) 14 = false then 1 else 0) = false := by
  by_cases h : bt (sp 1) 14 = false
  · rw [if_pos ((has_bit 14 (by omega) 16384 (by decide) sp).mpr h), if_pos h]
    exact mtest u 1 (by omega)
  · rw [if_neg (fun q => h ((has_bit 14 (by omega) 16384 (by decide) sp).mp q)), if_neg h]
    exact mtest u 0 (by omega)
theorem ref_valid (u : Int32) (sp : Nat → Int32) : (f_Ref_bit u (if f_Ref_bit (sp 1) 14 = 0 then (1 : Int32) else 0) = 0) ↔ bt u (if bt (sp 1) 14 = false then 1 else 0) = false := by
  have e : f_Ref_bit (sp 1) 14 = 0 ↔ bt (sp 1) 14 = false := rbit0 (sp 1) 14 (by omega)
  by_cases h : bt (sp 1) 14 = false
  · rw [if_pos (e.mpr h), if_pos h]
    exact rbit0 u 1 (by omega)
  · rw [if_neg (fun q => h (e.mp q)), if_neg h]
    exact rbit0 u 0 (by omega)
theorem ite4 {α : Type} {A0 A1 A2 A3 B0 B1 B2 B3 : Prop} [Decidable A0] [Decidable A1] [Decidable A2] [Decidable A3] [Decidable B0] [Decidable B1] [Decidable B2] [Decidable B3] (h0 : A0 ↔ B0) (h1 : A1 ↔ B1) (h2 : A2 ↔ B2) (h3 : A3 ↔ B3) (a0 a1 a2 a3 d : α) : (if A0 then a0 else if A1 then a1 else if A2 then a2 else if A3 then a3 else d) = (if B0 then a0 else if B1 then a1 else if B2 then a2 else if B3 then a3 else d) := by
  simp only [h0, h1, h2, h3]
theorem dev_mk (p0 u : Int32) (sp : Nat → Int32) : (¬ (u &&& (if f_Sta_has 1 16384 sp = 0 then (2 : Int32) else 1)) = 0 ∧ (((p0 ^^^ u) &&& -8192) &&& (f_Map_freeBits u ^^^ -1)) = 0) ↔ mk p0 u sp := by
  rw [dev_valid, and_swap]
theorem ref_mk (p0 u : Int32) (sp : Nat → Int32) : (¬ f_Ref_bit u (if f_Ref_bit (sp 1) 14 = 0 then (1 : Int32) else 0) = 0 ∧ (((p0 ^^^ u) &&& ((shl ((shr u 2) &&& 2047) 13) ^^^ -1)) &&& -8192) = 0) ↔ mk p0 u sp := by
  rw [ref_valid]
  exact Iff.rfl
/-- the upper half of block k, for the way p1 -/
abbrev ub (p1 : Int32) (k : Int32) (sp : Nat → Int32) : Int32 := sp (ix ((if p1 = 0 then (16 : Int32) else 24) + k))
theorem rd_ub (p1 k : Int32) (sp : Nat → Int32) (h : vp_in (16 + k) 48) (h2 : vp_in (24 + k) 48) : f_Sta_read ((if p1 = 0 then (16 : Int32) else 24) + k) sp = ub p1 k sp := by
  apply read_ix
  split <;> assumption
set_option maxHeartbeats 4000000 in
set_option maxRecDepth 100000 in
theorem mb_nf (p0 p1 : Int32) (sp : Nat → Int32) : f_Map_matchingBlock p0 p1 sp = (if mk p0 (ub p1 0 sp) sp then ((if p1 = 0 then (16 : Int32) else 24) + 0) else if mk p0 (ub p1 2 sp) sp then ((if p1 = 0 then (16 : Int32) else 24) + 2) else if mk p0 (ub p1 4 sp) sp then ((if p1 = 0 then (16 : Int32) else 24) + 4) else if mk p0 (ub p1 6 sp) sp then ((if p1 = 0 then (16 : Int32) else 24) + 6) else -1) := by
  unfold f_Map_matchingBlock
  rw [rd_ub p1 0 sp (by unfold vp_in; decide) (by unfold vp_in; decide), rd_ub p1 2 sp (by unfold vp_in; decide) (by unfold vp_in; decide), rd_ub p1 4 sp (by unfold vp_in; decide) (by unfold vp_in; decide), rd_ub p1 6 sp (by unfold vp_in; decide) (by unfold vp_in; decide)]
  simp only [tr]
  exact ite4 (dev_mk _ _ _) (dev_mk _ _ _) (dev_mk _ _ _) (dev_mk _ _ _) _ _ _ _ _
/-- the lower half -/
abbrev lb (p1 : Int32) (k : Int32) (sp : Nat → Int32) : Int32 := sp (ix ((if p1 = 0 then (17 : Int32) else 25) + k))
def bk (p0 p1 k : Int32) (sp : Nat → Int32) : Int32 × Int32 × Int32 := ((f_Ref_block p0 (lb p1 k sp) (shl ((shr (ub p1 k sp) 2) &&& 2047) 13) p1 0).1, (f_Ref_block p0 (lb p1 k sp) (shl ((shr (ub p1 k sp) 2) &&& 2047) 13) p1 0).2, -1)
set_option maxHeartbeats 4000000 in
set_option maxRecDepth 100000 in
theorem rs_nf (p0 p1 : Int32) (rs rm : Nat → Int32) : f_Ref_resolve p0 p1 rs rm = (if f_Ref_bit (rs 1) (if p1 = 0 then (5 : Int32) else 4) = 0 then (p0, 0, -1) else if mk p0 (ub p1 0 rs) rs then bk p0 p1 0 rs else if mk p0 (ub p1 2 rs) rs then bk p0 p1 2 rs else if mk p0 (ub p1 4 rs) rs then bk p0 p1 4 rs else if mk p0 (ub p1 6 rs) rs then bk p0 p1 6 rs else ((f_Ref_paged p0 p1 (f_Ref_bit (rs 1) 14) rs rm 0 (-1)).1, (f_Ref_paged p0 p1 (f_Ref_bit (rs 1) 14) rs rm 0 (-1)).2.1, (f_Ref_paged p0 p1 (f_Ref_bit (rs 1) 14) rs rm 0 (-1)).2.2)) := by
  unfold f_Ref_resolve
  dsimp only
  by_cases h : f_Ref_bit (rs 1) (if p1 = 0 then (5 : Int32) else 4) = 0
  · rw [if_pos h, if_pos h]
  · rw [if_neg h, if_neg h]
    simp only [tr]
    exact ite4 (ref_mk _ _ _) (ref_mk _ _ _) (ref_mk _ _ _) (ref_mk _ _ _) _ _ _ _ _
