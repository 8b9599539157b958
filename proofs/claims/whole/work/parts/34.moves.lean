theorem raise9 (n b v : Int32) (sp : Nat → Int32) (ex : Int32) : (f_Sta_raise n b (upd sp 9 v) ex).1 = upd (f_Sta_raise n b sp ex).1 9 v := by
  unfold f_Sta_raise
  funext j
  simp only [upd]
  by_cases h1 : j = 1
  · subst h1; simp
  · by_cases h7 : j = 7
    · subst h7; simp
    · by_cases h6 : j = 6
      · subst h6; simp
      · simp [h1, h7, h6]
theorem raise8 (n b v : Int32) (sp : Nat → Int32) (ex : Int32) : (f_Sta_raise n b (upd sp 8 v) ex).1 = upd (f_Sta_raise n b sp ex).1 8 v := by
  unfold f_Sta_raise
  funext j
  simp only [upd]
  by_cases h1 : j = 1
  · subst h1; simp
  · by_cases h7 : j = 7
    · subst h7; simp
    · by_cases h6 : j = 6
      · subst h6; simp
      · simp [h1, h7, h6]
def n3 (z : Int32 × Int32 × Int32) : Prop := ¬ z.2.1 = -3
theorem n3_S (p0 p1 key S : Int32) (rm : Nat → Int32) : n3 (pgS p0 p1 key S rm 0 (-1)) := by
  unfold pgS
  repeat' (with_reducible refine pred_ite ?_ ?_)
  all_goals (intro q; first | exact absurd (show (0 : Int32) = -3 from q) (by decide) | exact absurd (show (-2 : Int32) = -3 from q) (by decide))
theorem n3_bk (p0 p1 k : Int32) (sp : Nat → Int32) : n3 (bk p0 p1 k sp) := by
  unfold n3 bk f_Ref_block
  dsimp only
  repeat' split
  all_goals (intro q; first | exact absurd (show (0 : Int32) = -3 from q) (by decide) | exact absurd (show (-2 : Int32) = -3 from q) (by decide))
theorem n3_res (p0 p1 : Int32) (rs rm : Nat → Int32) (h : ¬ p1 = 0) : n3 (f_Ref_resolve p0 p1 rs rm) := by
  rw [rs_nf]
  with_reducible refine pred_ite ?_ ?_
  · intro q; exact absurd (show (0 : Int32) = -3 from q) (by decide)
  with_reducible refine pred_ite (n3_bk _ _ _ _) ?_
  with_reducible refine pred_ite (n3_bk _ _ _ _) ?_
  with_reducible refine pred_ite (n3_bk _ _ _ _) ?_
  with_reducible refine pred_ite (n3_bk _ _ _ _) ?_
  show n3 (f_Ref_paged p0 p1 (f_Ref_bit (rs 1) 14) rs rm 0 (-1))
  rw [pg_nf]
  with_reducible refine pred_ite ?_ ?_
  · rw [if_neg h]
    unfold pgX
    with_reducible refine pred_ite (n3_S _ _ _ _ _) ?_
    with_reducible refine pred_ite (n3_S _ _ _ _ _) ?_
    intro q; exact absurd q (by decide)
  · intro q; exact absurd q (by decide)
theorem low_idem (x : Int32) : (x &&& 65535) &&& 65535 = x &&& 65535 := by
  apply b_ext
  intro i hi
  simp only [b_and]
  cases bt x i <;> cases bt 65535 i <;> rfl
theorem low_nn (x : Int32) : 0 ≤ x &&& 65535 := low16_nn x
/-- what an access does, on both sides -/
def MV (ex : Int32) (z : Int32 × (Nat → Int32) × (Nat → Int32) × (Nat → Int32) × Int32 × Int32 × Int32 × Int32) (y : Int32 × (Nat → Int32) × (Nat → Int32) × (Nat → Int32) × Int32 × Int32 × Int32 × Int32 × Int32 × Int32) : Prop :=
  y.1 = z.1 ∧ y.2.1 = z.2.2.1 ∧ y.2.2.1 = z.2.2.2.1 ∧ y.2.2.2.1 = z.2.1 ∧ y.2.2.2.2.1 = z.2.2.2.2.2.1 ∧ y.2.2.2.2.2.2.2.1 = z.2.2.2.2.1 ∧ ((z.1 = 1 ∧ y.2.2.2.2.2.2.2.2.1 = 0 ∧ z.2.2.2.2.2.2.1 = ex) ∨ (z.1 = 0 ∧ y.2.2.2.2.2.2.2.2.1 = 1 ∧ z.2.2.2.2.2.2.1 = ex + 1))
theorem moves_MV (op d e : Int32) (w g sp : Nat → Int32) (nx lt ex en rr re rw size way sign : Int32) (hd : vp_in d 32) (hz : f_Acc_sizeOf op = size) (hm : f_Mem_mask size = f_Ref_low size) (hw : (if f_Acc_stores op = 0 then (1 : Int32) else 2) = way) (hw2 : way = 1 ∨ way = 2) (hs : (op = 42) ↔ ¬ sign = 0) : MV ex (f_Acc_moves op d e w g sp nx lt ex en) (f_Ref_reached e size way sign g sp w lt rr re d nx 0 rw) := by
  have hw0 : ¬ way = 0 := by rcases hw2 with h | h <;> rw [h] <;> decide
  unfold f_Acc_moves f_Ref_reached f_Ref_reach
  dsimp only
  rw [hz, hw]
  by_cases al : (e &&& (size - 1)) = 0
  · simp only [if_pos al]
    have L := loc_LR e way w sp
    have N := n3_res e way sp w hw0
    rcases L with ⟨y0, za, hk⟩ | ⟨yr, za⟩
    · have MT := mark_touch way w hk
      rw [y0, za, MT]
      simp only [if_pos (low_nn _)]
      have ef : f_Mem_shift ((f_Ref_resolve e way sp w).1 &&& 65535) size = f_Ref_above size ((f_Ref_resolve e way sp w).1 &&& 65535) := rfl
      have ea : ∀ ww : Nat → Int32, f_Mem_at ((f_Ref_resolve e way sp w).1 &&& 65535) ww = ww (ix (ush ((f_Ref_resolve e way sp w).1 &&& 65535) 2)) := by
        intro ww
        unfold f_Mem_at
        rw [low_idem]
      unfold f_Mem_keepPart f_Mem_part f_Sta_register f_Sta_keepRegister f_Mem_keep
      rw [ef, ea, low_idem, hm, and31 hd]
      rcases hw2 with h | h
      · subst h
        by_cases s : sign = 0
        · have o : ¬ op = 42 := fun q => (hs.mp q) s
          simp [s, o, MV]
        · have o : op = 42 := hs.mpr s
          simp [s, o, MV, sx16]
      · subst h
        simp [MV]
    · rw [za]
      have nr : ¬ (f_Ref_resolve e way sp w).2.1 = 0 := by
        intro q
        rw [q] at yr
        rcases yr with h | h | h <;> exact absurd h (by decide)
      have ng : ¬ 0 ≤ (f_Ref_resolve e way sp w).2.1 := by
        rcases yr with h | h | h <;> rw [h] <;> decide
      simp only [if_neg nr, if_neg ng]
      have N : ¬ (f_Ref_resolve e way sp w).2.1 = -3 := N
      unfold f_Acc_refuse f_Pro_causeBit
      have k8 : ∀ (v : Int32) (s : Nat → Int32), f_Sta_keep 8 v s = upd s 8 v := fun _ _ => rfl
      have k9 : ∀ (v : Int32) (s : Nat → Int32), f_Sta_keep 9 v s = upd s 9 v := fun _ _ => rfl
      simp only [k8, k9]
      rw [exc_eq _ _ _ ex, raise8, raise9]
      rcases yr with h | h | h
      · rw [h]
        rcases hw2 with q | q <;> subst q <;> exact ⟨rfl, rfl, rfl, rfl, rfl, rfl, Or.inr ⟨rfl, rfl, rfl⟩⟩
      · rw [h]
        rcases hw2 with q | q <;> subst q <;> exact ⟨rfl, rfl, rfl, rfl, rfl, rfl, Or.inr ⟨rfl, rfl, rfl⟩⟩
      · exact absurd h N
  · simp only [if_neg al]
    have k9 : ∀ (v : Int32) (s : Nat → Int32), f_Sta_keep 9 v s = upd s 9 v := fun _ _ => rfl
    rw [k9, exc_eq _ _ _ ex, raise9]
    exact ⟨rfl, rfl, rfl, rfl, rfl, rfl, Or.inr ⟨rfl, rfl, rfl⟩⟩
