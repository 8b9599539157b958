theorem org (s : Nat → Int32) (iw to : Int32) : f_Bra_origin s iw + to = (if (if (iw &&& 2) = 0 then (1 : Int32) else 0) = 0 then to else s 0 + to) := by
  unfold f_Bra_origin f_Ins_has
  by_cases h : (iw &&& 2) = 0
  · simp only [if_pos h]
    rfl
  · simp only [if_neg h]
    rw [if_neg (by decide), if_pos trivial, Int32.zero_add]
section OPS3
variable (w g sp : Nat → Int32) (nx lt ex en iw id ia ib ii is iu rr re rw : Int32)
theorem op16 (ha : vp_in ia 32) (hs : is = f_Ref_signed16 iw) (hn : nx = sp 0 + 4) : IRl ex (f_Pro_performs w g sp nx lt ex en iw 16 id ia ib ii is iu) (f_Ref_execute 16 g sp w lt rr re iw id ia ib nx 0 rw) := by
  obtain ⟨k, hk, rfl⟩ := vp_in_of ha (by decide)
  have e1 : f_Pro_performs w g sp nx lt ex en iw 16 id (nI k) ib ii is iu = (1, w, g, (f_Bra_branch (f_Bra_taken id (nI k) sp).1 (f_Bra_origin (f_Bra_taken id (nI k) sp).2 iw + (is &&& -4)) (f_Bra_taken id (nI k) sp).2 nx iw).1, (f_Bra_branch (f_Bra_taken id (nI k) sp).1 (f_Bra_origin (f_Bra_taken id (nI k) sp).2 iw + (is &&& -4)) (f_Bra_taken id (nI k) sp).2 nx iw).2, lt, ex, en) := rfl
  have e2 : f_Ref_execute 16 g sp w lt rr re iw id (nI k) ib nx 0 rw = (g, (f_Ref_branch id (f_Ref_signed16 iw &&& -4) (if (iw &&& 2) = 0 then 1 else 0) sp iw (nI k)).1, w, lt, rr, re, (f_Ref_branch id (f_Ref_signed16 iw &&& -4) (if (iw &&& 2) = 0 then 1 else 0) sp iw (nI k)).2, 0, rw) := rfl
  rw [e1, e2, br_eq _ _ _ _ nx hk sp hn, org, hs]
  exact ⟨rfl, rfl, rfl, rfl, rfl, rfl, Or.inl ⟨rfl, rfl⟩⟩
theorem op18 (ha : vp_in ia 32) (hn : nx = sp 0 + 4) : IRl ex (f_Pro_performs w g sp nx lt ex en iw 18 id ia ib ii is iu) (f_Ref_execute 18 g sp w lt rr re iw id ia ib nx 0 rw) := by
  obtain ⟨k, hk, rfl⟩ := vp_in_of ha (by decide)
  have e1 : f_Pro_performs w g sp nx lt ex en iw 18 id (nI k) ib ii is iu = (1, w, g, (f_Bra_branch 1 (f_Bra_origin sp iw + (shr (shl iw 6) 6 &&& -4)) sp nx iw).1, (f_Bra_branch 1 (f_Bra_origin sp iw + (shr (shl iw 6) 6 &&& -4)) sp nx iw).2, lt, ex, en) := rfl
  have e2 : f_Ref_execute 18 g sp w lt rr re iw id (nI k) ib nx 0 rw = (g, (f_Ref_branch 20 (shr (shl iw 6) 6 &&& -4) (if (iw &&& 2) = 0 then 1 else 0) sp iw (nI k)).1, w, lt, rr, re, (f_Ref_branch 20 (shr (shl iw 6) 6 &&& -4) (if (iw &&& 2) = 0 then 1 else 0) sp iw (nI k)).2, 0, rw) := rfl
  have e3 : f_Bra_taken 20 (nI k) sp = (1, sp) := rfl
  rw [e1, e2, br_eq _ _ _ _ nx hk sp hn, e3, org]
  exact ⟨rfl, rfl, rfl, rfl, rfl, rfl, Or.inl ⟨rfl, rfl⟩⟩
end OPS3
/-- the same for what changes special registers and counts alone -/
def CRl (ex : Int32) (z : Int32 × (Nat → Int32) × Int32 × Int32 × Int32) (y : (Nat → Int32) × Int32 × Int32 × Int32) : Prop :=
  z.1 = 1 ∧ y.1 = z.2.1 ∧ y.2.1 = z.2.2.2.1 ∧ y.2.2.1 = z.2.2.1 ∧ ((y.2.2.2 = 0 ∧ z.2.2.2.2 = ex) ∨ (y.2.2.2 = 1 ∧ z.2.2.2.2 = ex + 1))
def CRu (sp : Nat → Int32) (nx lt ex : Int32) (z : Int32 × (Nat → Int32) × Int32 × Int32 × Int32) (y : (Nat → Int32) × Int32 × Int32 × Int32) : Prop :=
  z = (0, sp, nx, lt, ex) ∧ y = f_Ref_exception 1792 524288 sp
theorem bits2 (b c : Bool) : (if ob b = 0 then (0 : Int32) else (if ob c = 0 then 0 else 1)) = ob (b && c) ∧ (if ob b = 0 then (if ob c = 0 then (0 : Int32) else 1) else 1) = ob (b || c) ∧ (if ob b = ob c then (0 : Int32) else 1) = ob (b ^^ c) ∧ ob b &&& ob c = ob (b && c) ∧ ob b ||| ob c = ob (b || c) ∧ ob b ^^^ ob c = ob (b ^^ c) := by
  cases b <;> cases c <;> decide
set_option maxHeartbeats 4000000 in
theorem cond_CR (sp : Nat → Int32) (nx lt ex iw id ia ib ii : Int32) (hd : vp_in id 32) (ha : vp_in ia 32) (hb : vp_in ib 32) (hn : nx = sp 0 + 4) :
    CRl ex (f_Bra_runsExtended sp nx lt ex iw id ia ib ii) (f_Ref_conditions ii sp lt iw id ia ib nx 0) ∨ CRu sp nx lt ex (f_Bra_runsExtended sp nx lt ex iw id ia ib ii) (f_Ref_conditions ii sp lt iw id ia ib nx 0) := by
  obtain ⟨k, hk, rfl⟩ := vp_in_of ha (by decide)
  obtain ⟨q, hq, rfl⟩ := vp_in_of hb (by decide)
  obtain ⟨d, hd', rfl⟩ := vp_in_of hd (by decide)
  by_cases c16 : ii = 16
  · subst c16
    left
    have e1 : f_Bra_runsExtended sp nx lt ex iw (nI d) (nI k) (nI q) 16 = (1, (f_Bra_branch (f_Bra_taken (nI d) (nI k) sp).1 ((f_Bra_taken (nI d) (nI k) sp).2 4 &&& -4) (f_Bra_taken (nI d) (nI k) sp).2 nx iw).1, (f_Bra_branch (f_Bra_taken (nI d) (nI k) sp).1 ((f_Bra_taken (nI d) (nI k) sp).2 4 &&& -4) (f_Bra_taken (nI d) (nI k) sp).2 nx iw).2, lt, ex) := rfl
    have e2 : f_Ref_conditions 16 sp lt iw (nI d) (nI k) (nI q) nx 0 = ((f_Ref_branch (nI d) (sp 4 &&& -4) 0 sp iw (nI k)).1, lt, (f_Ref_branch (nI d) (sp 4 &&& -4) 0 sp iw (nI k)).2, 0) := rfl
    have e3 : (f_Bra_taken (nI d) (nI k) sp).2 4 = sp 4 := by
      unfold f_Bra_taken
      repeat' split
      all_goals rfl
    rw [e1, e2, br_eq _ _ _ _ nx hk sp hn, e3, if_pos rfl]
    exact ⟨rfl, rfl, rfl, rfl, Or.inl ⟨rfl, rfl⟩⟩
  by_cases c528 : ii = 528
  · subst c528
    left
    have e1 : f_Bra_runsExtended sp nx lt ex iw (nI d) (nI k) (nI q) 528 = (1, (f_Bra_branch (f_Bra_taken (nI d ||| 4) (nI k) sp).1 ((f_Bra_taken (nI d ||| 4) (nI k) sp).2 5 &&& -4) (f_Bra_taken (nI d ||| 4) (nI k) sp).2 nx iw).1, (f_Bra_branch (f_Bra_taken (nI d ||| 4) (nI k) sp).1 ((f_Bra_taken (nI d ||| 4) (nI k) sp).2 5 &&& -4) (f_Bra_taken (nI d ||| 4) (nI k) sp).2 nx iw).2, lt, ex) := rfl
    have e2 : f_Ref_conditions 528 sp lt iw (nI d) (nI k) (nI q) nx 0 = ((f_Ref_branch (nI d ||| 4) (sp 5 &&& -4) 0 sp iw (nI k)).1, lt, (f_Ref_branch (nI d ||| 4) (sp 5 &&& -4) 0 sp iw (nI k)).2, 0) := rfl
    have n4 : ¬ ((nI d ||| 4) &&& 4) = 0 := by
      intro z
      have h1 : bt ((nI d ||| 4) &&& 4) 2 = false := by rw [z]; exact b_0 2
      rw [b_and, b_or, show bt 4 2 = true from by decide] at h1
      simp at h1
    have e3 : (f_Bra_taken (nI d ||| 4) (nI k) sp).2 5 = sp 5 := by
      unfold f_Bra_taken
      rw [if_neg n4]
      split <;> rfl
    rw [e1, e2, br_eq _ _ _ _ nx hk sp hn, e3, if_pos rfl]
    exact ⟨rfl, rfl, rfl, rfl, Or.inl ⟨rfl, rfl⟩⟩
  by_cases c257 : ii = 257
  · subst c257
    left
    have e1 : f_Bra_runsExtended sp nx lt ex iw (nI d) (nI k) (nI q) 257 = (1, f_Sta_keepConditionBit (nI d) (f_Sta_conditionBit (nI k) sp &&& f_Sta_conditionBit (nI q) sp) sp, nx, lt, ex) := rfl
    have e2 : f_Ref_conditions 257 sp lt iw (nI d) (nI k) (nI q) nx 0 = (f_Ref_crSet (nI d) (if f_Ref_crBit (nI k) sp = 0 then 0 else (if f_Ref_crBit (nI q) sp = 0 then 0 else 1)) sp, lt, nx, 0) := rfl
    rw [e1, e2, cond_bit hk, cond_bit hq, cr_bit hk, cr_bit hq, (bits2 _ _).1, (bits2 _ _).2.2.2.1, cr_set hd']
    exact ⟨rfl, rfl, rfl, rfl, Or.inl ⟨rfl, rfl⟩⟩
  by_cases c449 : ii = 449
  · subst c449
    left
    have e1 : f_Bra_runsExtended sp nx lt ex iw (nI d) (nI k) (nI q) 449 = (1, f_Sta_keepConditionBit (nI d) (f_Sta_conditionBit (nI k) sp ||| f_Sta_conditionBit (nI q) sp) sp, nx, lt, ex) := rfl
    have e2 : f_Ref_conditions 449 sp lt iw (nI d) (nI k) (nI q) nx 0 = (f_Ref_crSet (nI d) (if f_Ref_crBit (nI k) sp = 0 then (if f_Ref_crBit (nI q) sp = 0 then 0 else 1) else 1) sp, lt, nx, 0) := rfl
    rw [e1, e2, cond_bit hk, cond_bit hq, cr_bit hk, cr_bit hq, (bits2 _ _).2.1, (bits2 _ _).2.2.2.2.1, cr_set hd']
    exact ⟨rfl, rfl, rfl, rfl, Or.inl ⟨rfl, rfl⟩⟩
  by_cases c193 : ii = 193
  · subst c193
    left
    have e1 : f_Bra_runsExtended sp nx lt ex iw (nI d) (nI k) (nI q) 193 = (1, f_Sta_keepConditionBit (nI d) (f_Sta_conditionBit (nI k) sp ^^^ f_Sta_conditionBit (nI q) sp) sp, nx, lt, ex) := rfl
    have e2 : f_Ref_conditions 193 sp lt iw (nI d) (nI k) (nI q) nx 0 = (f_Ref_crSet (nI d) (if f_Ref_crBit (nI k) sp = f_Ref_crBit (nI q) sp then 0 else 1) sp, lt, nx, 0) := rfl
    rw [e1, e2, cond_bit hk, cond_bit hq, cr_bit hk, cr_bit hq, (bits2 _ _).2.2.1, (bits2 _ _).2.2.2.2.2, cr_set hd']
    exact ⟨rfl, rfl, rfl, rfl, Or.inl ⟨rfl, rfl⟩⟩
  by_cases c50 : ii = 50
  · subst c50
    left
    have eb := has_bit 14 (by omega) 16384 (by decide) sp
    have er : f_Ref_bit (sp 1) 14 = 0 ↔ bt (sp 1) 14 = false := rbit0 (sp 1) 14 (by omega)
    have e1 : f_Bra_runsExtended sp nx lt ex iw (nI d) (nI k) (nI q) 50 = (1, f_Bra_returnFromException sp nx lt ex) := rfl
    have e2 : f_Ref_conditions 50 sp lt iw (nI d) (nI k) (nI q) nx 0 = (if (f_Ref_barred sp lt nx 0).1 = 0 then (upd (f_Ref_barred sp lt nx 0).2.1 1 ((f_Ref_barred sp lt nx 0).2.1 7 &&& 65535), (f_Ref_barred sp lt nx 0).2.2.1, (upd (f_Ref_barred sp lt nx 0).2.1 1 ((f_Ref_barred sp lt nx 0).2.1 7 &&& 65535)) 6 &&& -4, (f_Ref_barred sp lt nx 0).2.2.2.2) else ((f_Ref_barred sp lt nx 0).2.1, (f_Ref_barred sp lt nx 0).2.2.1, (f_Ref_barred sp lt nx 0).2.2.2.1, (f_Ref_barred sp lt nx 0).2.2.2.2)) := rfl
    rw [e1, e2]
    unfold f_Bra_returnFromException f_Sta_refusesPrivileged f_Ref_barred
    by_cases p : bt (sp 1) 14 = false
    · simp only [if_pos (eb.mpr p), if_pos (er.mpr p)]
      exact ⟨rfl, rfl, rfl, rfl, Or.inl ⟨rfl, rfl⟩⟩
    · simp only [if_neg (fun z => p (eb.mp z)), if_neg (fun z => p (er.mp z))]
      exact ⟨rfl, rfl, rfl, rfl, Or.inr ⟨rfl, rfl⟩⟩
  by_cases c150 : ii = 150
  · subst c150
    left
    exact ⟨rfl, rfl, rfl, rfl, Or.inl ⟨rfl, rfl⟩⟩
  right
  unfold f_Bra_runsExtended f_Ref_conditions
  simp only [if_neg c16, if_neg c50, if_neg c150, if_neg c193, if_neg c257, if_neg c449, if_neg c528]
  exact ⟨rfl, rfl⟩
