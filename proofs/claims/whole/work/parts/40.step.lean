/-- what one step leaves -/
def nxt (w g sp : Nat → Int32) (lt sm ex iw io id ia ib ii is iu : Int32) : (Nat → Int32) × (Nat → Int32) × (Nat → Int32) × Int32 × Int32 × Int32 × Int32 × Int32 × Int32 × Int32 × Int32 × Int32 × Int32 × Int32 × Int32 × Int32 :=
  let t6 := (f_Pro_fetches w sp (sp 0 + 4) lt ex iw io id ia ib ii is iu)
  if t6.1 = 0 then (t6.2.1, g, f_Sta_finish t6.2.2.1 t6.2.2.2.1, t6.2.2.2.1, t6.2.2.2.2.1, sm + 1, t6.2.2.2.2.2.1, t6.2.2.2.2.2.2.1, t6.2.2.2.2.2.2.2.1, t6.2.2.2.2.2.2.2.2.1, t6.2.2.2.2.2.2.2.2.2.1, t6.2.2.2.2.2.2.2.2.2.2.1, t6.2.2.2.2.2.2.2.2.2.2.2.1, t6.2.2.2.2.2.2.2.2.2.2.2.2.1, t6.2.2.2.2.2.2.2.2.2.2.2.2.2.1, t6.2.2.2.2.2.2.2.2.2.2.2.2.2.2)
  else
    let t11 := f_Pro_performs t6.2.1 g t6.2.2.1 t6.2.2.2.1 t6.2.2.2.2.1 t6.2.2.2.2.2.1 t6.2.2.2.2.2.2.1 t6.2.2.2.2.2.2.2.1 t6.2.2.2.2.2.2.2.2.1 t6.2.2.2.2.2.2.2.2.2.1 t6.2.2.2.2.2.2.2.2.2.2.1 t6.2.2.2.2.2.2.2.2.2.2.2.1 t6.2.2.2.2.2.2.2.2.2.2.2.2.1 t6.2.2.2.2.2.2.2.2.2.2.2.2.2.1 t6.2.2.2.2.2.2.2.2.2.2.2.2.2.2
    if t11.1 = 0 then
      let t16 := f_Sta_raise 1792 524288 t11.2.2.2.1 t11.2.2.2.2.2.2.1
      (t11.2.1, t11.2.2.1, f_Sta_finish t16.1 t16.2.1, t16.2.1, t16.2.2.1, sm + 1, t16.2.2.2, t11.2.2.2.2.2.2.2, t6.2.2.2.2.2.2.2.1, t6.2.2.2.2.2.2.2.2.1, t6.2.2.2.2.2.2.2.2.2.1, t6.2.2.2.2.2.2.2.2.2.2.1, t6.2.2.2.2.2.2.2.2.2.2.2.1, t6.2.2.2.2.2.2.2.2.2.2.2.2.1, t6.2.2.2.2.2.2.2.2.2.2.2.2.2.1, t6.2.2.2.2.2.2.2.2.2.2.2.2.2.2)
    else (t11.2.1, t11.2.2.1, f_Sta_finish t11.2.2.2.1 t11.2.2.2.2.1, t11.2.2.2.2.1, t11.2.2.2.2.2.1, sm + 1, t11.2.2.2.2.2.2.1, t11.2.2.2.2.2.2.2, t6.2.2.2.2.2.2.2.1, t6.2.2.2.2.2.2.2.2.1, t6.2.2.2.2.2.2.2.2.2.1, t6.2.2.2.2.2.2.2.2.2.2.1, t6.2.2.2.2.2.2.2.2.2.2.2.1, t6.2.2.2.2.2.2.2.2.2.2.2.2.1, t6.2.2.2.2.2.2.2.2.2.2.2.2.2.1, t6.2.2.2.2.2.2.2.2.2.2.2.2.2.2)
theorem nxt_lp (e0 : Int32) (n j : Nat) (w g sp : Nat → Int32) (nx lt sm ex en iw io id ia ib ii is iu : Int32) : f_Pro_step_lp e0 (n + 1) j w g sp nx lt sm ex en iw io id ia ib ii is iu = f_Pro_step_lp e0 n (j + 1) (nxt w g sp lt sm ex iw io id ia ib ii is iu).1 (nxt w g sp lt sm ex iw io id ia ib ii is iu).2.1 (nxt w g sp lt sm ex iw io id ia ib ii is iu).2.2.1 (nxt w g sp lt sm ex iw io id ia ib ii is iu).2.2.2.1 (nxt w g sp lt sm ex iw io id ia ib ii is iu).2.2.2.2.1 (nxt w g sp lt sm ex iw io id ia ib ii is iu).2.2.2.2.2.1 (nxt w g sp lt sm ex iw io id ia ib ii is iu).2.2.2.2.2.2.1 (nxt w g sp lt sm ex iw io id ia ib ii is iu).2.2.2.2.2.2.2.1 (nxt w g sp lt sm ex iw io id ia ib ii is iu).2.2.2.2.2.2.2.2.1 (nxt w g sp lt sm ex iw io id ia ib ii is iu).2.2.2.2.2.2.2.2.2.1 (nxt w g sp lt sm ex iw io id ia ib ii is iu).2.2.2.2.2.2.2.2.2.2.1 (nxt w g sp lt sm ex iw io id ia ib ii is iu).2.2.2.2.2.2.2.2.2.2.2.1 (nxt w g sp lt sm ex iw io id ia ib ii is iu).2.2.2.2.2.2.2.2.2.2.2.2.1 (nxt w g sp lt sm ex iw io id ia ib ii is iu).2.2.2.2.2.2.2.2.2.2.2.2.2.1 (nxt w g sp lt sm ex iw io id ia ib ii is iu).2.2.2.2.2.2.2.2.2.2.2.2.2.2.1 (nxt w g sp lt sm ex iw io id ia ib ii is iu).2.2.2.2.2.2.2.2.2.2.2.2.2.2.2 := by
  rw [f_Pro_step_lp]
  unfold nxt f_Sta_begin
  dsimp only
  by_cases h : (f_Pro_fetches w sp (sp 0 + 4) lt ex iw io id ia ib ii is iu).1 = 0
  · simp only [if_pos h]
  · simp only [if_neg h]
    split
    · rfl
    · rfl
theorem six (c : Int32) : ∃ k, k < 64 ∧ ush c 26 = nI k := by
  have e : ush c 26 = ush c 26 &&& 63 := by
    apply b_ext
    intro i hi
    rw [b_and, show (26 : Int32) = nI 26 from rfl, bush 26 (by omega) c i]
    by_cases h : i < 6
    · rw [(by decide +kernel : ∀ i, i < 6 → bt 63 i = true) i h]; simp
    · rw [b_big (i := 26 + i) (by omega)]; simp
  rw [e]
  exact pk_andE _ 6 (by decide)

theorem nxt_one (w g sp : Nat → Int32) (lt sm ex iw io id ia ib ii is iu rc rd ra rb rw : Int32) : (f_Ref_one g sp w lt sm rc rd ra rb rw).2.1 = (nxt w g sp lt sm ex iw io id ia ib ii is iu).2.1 ∧ (f_Ref_one g sp w lt sm rc rd ra rb rw).2.2.1 = (nxt w g sp lt sm ex iw io id ia ib ii is iu).2.2.1 ∧ (f_Ref_one g sp w lt sm rc rd ra rb rw).2.2.2.1 = (nxt w g sp lt sm ex iw io id ia ib ii is iu).1 ∧ (f_Ref_one g sp w lt sm rc rd ra rb rw).2.2.2.2.1 = (nxt w g sp lt sm ex iw io id ia ib ii is iu).2.2.2.2.1 ∧ (f_Ref_one g sp w lt sm rc rd ra rb rw).2.2.2.2.2.1 = sm + 1 ∧ (nxt w g sp lt sm ex iw io id ia ib ii is iu).2.2.2.2.2.1 = sm + 1 ∧ (((f_Ref_one g sp w lt sm rc rd ra rb rw).1 = 0 ∧ (nxt w g sp lt sm ex iw io id ia ib ii is iu).2.2.2.2.2.2.1 = ex) ∨ ((f_Ref_one g sp w lt sm rc rd ra rb rw).1 = 1 ∧ (nxt w g sp lt sm ex iw io id ia ib ii is iu).2.2.2.2.2.2.1 = ex + 1)) := by
  have L := loc_LR (sp 0) 0 w sp
  rcases L with ⟨y0, za, hk⟩ | ⟨yr, za⟩
  · have MT := mark_touch 0 w hk
    obtain ⟨W, hW⟩ : ∃ W, (f_Ref_touch 0 w (f_Ref_resolve (sp 0) 0 sp w).2.2) = W := ⟨_, rfl⟩
    obtain ⟨c, hc⟩ : ∃ c, W (ix (ush ((f_Ref_resolve (sp 0) 0 sp w).1 &&& 65535) 2)) = c := ⟨_, rfl⟩
    have hf : (f_Pro_fetches w sp (sp 0 + 4) lt ex iw io id ia ib ii is iu) = (1, W, sp, sp 0 + 4, lt, ex, (f_Map_locate (sp 0) 0 w sp).2, c, ush c 26, shr c 21 &&& 31, shr c 16 &&& 31, shr c 11 &&& 31, shr c 1 &&& 1023, c.toInt16.toInt32, c &&& 65535) := by
      unfold f_Pro_fetches
      rw [show f_Sta_read 0 sp = sp 0 from rfl]
      dsimp only
      rw [za, if_pos (low_nn _), MT, hW]
      unfold f_Mem_at f_Ins_take
      rw [low_idem, hc]
    have ho : (f_Ref_one g sp w lt sm rc rd ra rb rw) = (let t6 := f_Ref_execute (ush c 26) g sp W lt (f_Ref_resolve (sp 0) 0 sp w).2.1 (f_Ref_resolve (sp 0) 0 sp w).2.2 c (shr c 21 &&& 31) (shr c 16 &&& 31) (shr c 11 &&& 31) (sp 0 + 4) 0 rw; (t6.2.2.2.2.2.2.2.1, t6.1, upd t6.2.1 0 t6.2.2.2.2.2.2.1, t6.2.2.1, t6.2.2.2.1, sm + 1, t6.2.2.2.2.1, t6.2.2.2.2.2.1, c, shr c 21 &&& 31, shr c 16 &&& 31, shr c 11 &&& 31, t6.2.2.2.2.2.2.1, t6.2.2.2.2.2.2.2.1, t6.2.2.2.2.2.2.2.2)) := by
      unfold f_Ref_one
      dsimp only
      rw [if_pos y0, hW, hc]
    have A := op_all W g sp (sp 0 + 4) lt ex (f_Map_locate (sp 0) 0 w sp).2 c (shr c 21 &&& 31) (shr c 16 &&& 31) (shr c 11 &&& 31) (shr c 1 &&& 1023) c.toInt16.toInt32 (c &&& 65535) (f_Ref_resolve (sp 0) 0 sp w).2.1 (f_Ref_resolve (sp 0) 0 sp w).2.2 rw (ush c 26) (six c) (ix32 _) (ix32 _) (ix32 _) (sx16 c).symm rfl rfl rfl
    rw [ho]
    unfold nxt
    rw [hf]
    dsimp only
    rw [if_neg n10]
    rcases A with ⟨a0, a1, a2, a3, a4, a5, a6⟩ | ⟨a0, a1, a2, a3, a4, b1, b2, b3, b4, b5, b6⟩
    · rw [if_neg (by rw [a0]; decide)]
      refine ⟨a1, ?_, a3, a4, rfl, rfl, a6⟩
      unfold f_Sta_finish
      rw [a2, a5]
    · rw [if_pos a0]
      refine ⟨b1.trans a2.symm, ?_, b3.trans a1.symm, b4, rfl, rfl, Or.inr ⟨b6, ?_⟩⟩
      · unfold f_Sta_finish
        rw [b2, b5, a3, a4]
        rfl
      · rw [a4]
        rfl
  · have ng : ¬ 0 ≤ (f_Ref_resolve (sp 0) 0 sp w).2.1 := by
      rcases yr with h | h | h <;> rw [h] <;> decide
    have nr : ¬ (f_Ref_resolve (sp 0) 0 sp w).2.1 = 0 := by
      intro q
      rw [q] at ng
      exact ng (by decide)
    have hf : (f_Pro_fetches w sp (sp 0 + 4) lt ex iw io id ia ib ii is iu) = (0, w, (f_Sta_raise 1024 (f_Pro_causeBit (f_Ref_resolve (sp 0) 0 sp w).2.1) sp ex).1, 1024, 1024, ex + 1, (f_Map_locate (sp 0) 0 w sp).2, iw, io, id, ia, ib, ii, is, iu) := by
      unfold f_Pro_fetches
      rw [show f_Sta_read 0 sp = sp 0 from rfl]
      dsimp only
      rw [za, if_neg ng]
      rfl
    have ho : (f_Ref_one g sp w lt sm rc rd ra rb rw) = (1, g, upd (f_Sta_raise 1024 (f_Pro_causeBit (f_Ref_resolve (sp 0) 0 sp w).2.1) sp ex).1 0 1024, w, 1024, sm + 1, (f_Ref_resolve (sp 0) 0 sp w).2.1, (f_Ref_resolve (sp 0) 0 sp w).2.2, rc, rd, ra, rb, 1024, 1, rw) := by
      unfold f_Ref_one
      dsimp only
      rw [if_neg nr]
      rfl
    rw [ho]
    unfold nxt
    rw [hf]
    exact ⟨rfl, rfl, rfl, rfl, rfl, rfl, Or.inr ⟨rfl, rfl⟩⟩
theorem add_sub1 (a b : Int32) : a + 1 - b = a - b + 1 := by
  rw [Int32.sub_eq_add_neg, Int32.sub_eq_add_neg, Int32.add_assoc, Int32.add_assoc, Int32.add_comm 1]
theorem loop_eq (e0 : Int32) : ∀ (n j k : Nat) (w g sp : Nat → Int32) (nx lt sm ex en iw io id ia ib ii is iu : Int32) (rr re rc rd ra rb rn rf rw x : Int32), x = ex - e0 → (f_Ref_step_lp n k x g sp w lt sm rr re rc rd ra rb rn rf rw).1 = (f_Pro_step_lp e0 n j w g sp nx lt sm ex en iw io id ia ib ii is iu).1 ∧ (f_Ref_step_lp n k x g sp w lt sm rr re rc rd ra rb rn rf rw).2.1 = (f_Pro_step_lp e0 n j w g sp nx lt sm ex en iw io id ia ib ii is iu).2.2.1 ∧ (f_Ref_step_lp n k x g sp w lt sm rr re rc rd ra rb rn rf rw).2.2.1 = (f_Pro_step_lp e0 n j w g sp nx lt sm ex en iw io id ia ib ii is iu).2.2.2.1 ∧ (f_Ref_step_lp n k x g sp w lt sm rr re rc rd ra rb rn rf rw).2.2.2.1 = (f_Pro_step_lp e0 n j w g sp nx lt sm ex en iw io id ia ib ii is iu).2.1 ∧ (f_Ref_step_lp n k x g sp w lt sm rr re rc rd ra rb rn rf rw).2.2.2.2.1 = (f_Pro_step_lp e0 n j w g sp nx lt sm ex en iw io id ia ib ii is iu).2.2.2.2.2.1 ∧ (f_Ref_step_lp n k x g sp w lt sm rr re rc rd ra rb rn rf rw).2.2.2.2.2.1 = (f_Pro_step_lp e0 n j w g sp nx lt sm ex en iw io id ia ib ii is iu).2.2.2.2.2.2.1 := by
  intro n
  induction n with
  | zero =>
    intro j k w g sp nx lt sm ex en iw io id ia ib ii is iu rr re rc rd ra rb rn rf rw x hx
    exact ⟨hx, rfl, rfl, rfl, rfl, rfl⟩
  | succ n ih =>
    intro j k w g sp nx lt sm ex en iw io id ia ib ii is iu rr re rc rd ra rb rn rf rw x hx
    rw [nxt_lp, f_Ref_step_lp]
    obtain ⟨h1, h2, h3, h4, h5, h6, h7⟩ := nxt_one w g sp lt sm ex iw io id ia ib ii is iu rc rd ra rb rw
    rw [h1, h2, h3, h4, h5, h6]
    apply ih
    rcases h7 with ⟨r, e⟩ | ⟨r, e⟩
    · rw [r, e, if_pos rfl]; exact hx
    · rw [r, e, if_neg n10, hx, add_sub1]
theorem step_eq (p : Int32) (w g sp : Nat → Int32) (nx lt sm ex en iw io id ia ib ii is iu : Int32) (rr re rc rd ra rb rn rf rw : Int32) : (f_Ref_step p g sp w lt sm rr re rc rd ra rb rn rf rw).1 = (f_Pro_step p w g sp nx lt sm ex en iw io id ia ib ii is iu).1 ∧ (f_Ref_step p g sp w lt sm rr re rc rd ra rb rn rf rw).2.1 = (f_Pro_step p w g sp nx lt sm ex en iw io id ia ib ii is iu).2.2.1 ∧ (f_Ref_step p g sp w lt sm rr re rc rd ra rb rn rf rw).2.2.1 = (f_Pro_step p w g sp nx lt sm ex en iw io id ia ib ii is iu).2.2.2.1 ∧ (f_Ref_step p g sp w lt sm rr re rc rd ra rb rn rf rw).2.2.2.1 = (f_Pro_step p w g sp nx lt sm ex en iw io id ia ib ii is iu).2.1 ∧ (f_Ref_step p g sp w lt sm rr re rc rd ra rb rn rf rw).2.2.2.2.1 = (f_Pro_step p w g sp nx lt sm ex en iw io id ia ib ii is iu).2.2.2.2.2.1 ∧ (f_Ref_step p g sp w lt sm rr re rc rd ra rb rn rf rw).2.2.2.2.2.1 = (f_Pro_step p w g sp nx lt sm ex en iw io id ia ib ii is iu).2.2.2.2.2.2.1 := by
  unfold f_Pro_step f_Ref_step
  by_cases h1 : p < 1
  · rw [if_pos h1, if_pos h1]; exact ⟨rfl, rfl, rfl, rfl, rfl, rfl⟩
  rw [if_neg h1, if_neg h1]
  by_cases h2 : p ≤ 50
  · rw [if_pos h2, if_pos h2]
    exact loop_eq ex (ix p) 0 0 w g sp nx lt sm ex en iw io id ia ib ii is iu rr re rc rd ra rb rn rf rw 0 (Int32.sub_self ex).symm
  · rw [if_neg h2, if_neg h2]; exact ⟨rfl, rfl, rfl, rfl, rfl, rfl⟩
theorem lt_le (p : Int32) (a b : Int32) (h : b.toInt = a.toInt + 1) : p < b ↔ p ≤ a := by
  rw [Int32.lt_iff_toInt_lt, Int32.le_iff_toInt_le, h]
  omega
theorem in_of {p : Int32} {n : Nat} (h0 : ¬ p < 0) (b : Int32) (hb : b = nI n) (hn : n < 2 ^ 31) (h1 : p < b) : vp_in p n := by
  intro h
  rcases h with h | h
  · exact h0 h
  · subst hb
    rw [Int32.lt_iff_toInt_lt, nI_toInt hn] at h1
    rw [Int32.lt_iff_toInt_lt] at h0
    have e : (0 : Int32).toInt = 0 := by decide
    have : (p.toNatClampNeg : Int) = p.toInt := by
      rw [Int32.toNatClampNeg]
      omega
    omega
theorem write_eq (p v : Int32) (w : Nat → Int32) : f_Ref_write p v w = f_Pro_write p v w := by
  unfold f_Ref_write f_Pro_write
  by_cases h0 : p < 0
  · rw [if_pos h0, if_pos h0]
  rw [if_neg h0, if_neg h0]
  have e := lt_le p 16383 16384 (by decide)
  by_cases h1 : p < 16384
  · rw [if_pos h1, if_pos (e.mp h1)]
    unfold f_Mem_keep
    rw [four p (in_of h0 16384 rfl (by decide) h1)]
  · rw [if_neg h1, if_neg (fun q => h1 (e.mpr q))]
theorem word_eq (p : Int32) (w : Nat → Int32) : f_Ref_word p w = f_Pro_word p w := by
  unfold f_Ref_word f_Pro_word
  by_cases h0 : p < 0
  · rw [if_pos h0, if_pos h0]
  rw [if_neg h0, if_neg h0]
  have e := lt_le p 16383 16384 (by decide)
  by_cases h1 : p < 16384
  · rw [if_pos h1, if_pos (e.mp h1)]
    unfold f_Mem_at
    rw [four p (in_of h0 16384 rfl (by decide) h1)]
  · rw [if_neg h1, if_neg (fun q => h1 (e.mpr q))]
theorem put_eq (p v : Int32) (g : Nat → Int32) : f_Ref_put p v g = f_Pro_put p v g := by
  unfold f_Ref_put f_Pro_put
  by_cases h0 : p < 0
  · rw [if_pos h0, if_pos h0]
  rw [if_neg h0, if_neg h0]
  have e := lt_le p 31 32 (by decide)
  by_cases h1 : p < 32
  · rw [if_pos h1, if_pos (e.mp h1)]
    unfold f_Sta_keepRegister
    rw [and31 (in_of h0 32 rfl (by decide) h1)]
  · rw [if_neg h1, if_neg (fun q => h1 (e.mpr q))]
theorem general_eq (p : Int32) (g : Nat → Int32) : f_Ref_general p g = f_Pro_general p g := by
  unfold f_Ref_general f_Pro_general
  by_cases h0 : p < 0
  · rw [if_pos h0, if_pos h0]
  rw [if_neg h0, if_neg h0]
  have e := lt_le p 31 32 (by decide)
  by_cases h1 : p < 32
  · rw [if_pos h1, if_pos (e.mp h1)]
    unfold f_Sta_register
    rw [and31 (in_of h0 32 rfl (by decide) h1)]
  · rw [if_neg h1, if_neg (fun q => h1 (e.mpr q))]
theorem isp_eq (p : Int32) : f_Ref_isSpecial p = f_Pro_isSpecial p ∧ (¬ f_Pro_isSpecial p = 0 → vp_in p 48) := by
  unfold f_Ref_isSpecial f_Pro_isSpecial
  have e : 47 < p ↔ 48 ≤ p := by
    rw [Int32.lt_iff_toInt_lt, Int32.le_iff_toInt_le, show (47 : Int32).toInt = 47 from by decide, show (48 : Int32).toInt = 48 from by decide]
    omega
  have f : ¬ p < 0 → ¬ 48 ≤ p → vp_in p 48 := by
    intro h0 h1
    apply in_of h0 48 rfl (by decide)
    rw [Int32.le_iff_toInt_le] at h1
    rw [Int32.lt_iff_toInt_lt]
    omega
  have g : p ≤ 10 → ¬ 48 ≤ p := by
    intro h1 h2
    rw [Int32.le_iff_toInt_le, show (10 : Int32).toInt = 10 from by decide] at h1
    rw [Int32.le_iff_toInt_le, show (48 : Int32).toInt = 48 from by decide] at h2
    omega
  have k : p < 0 → p < 16 := by
    intro h1
    rw [Int32.lt_iff_toInt_lt, show (0 : Int32).toInt = 0 from by decide] at h1
    rw [Int32.lt_iff_toInt_lt, show (16 : Int32).toInt = 16 from by decide]
    omega
  constructor
  · simp only [e]
  · by_cases h0 : p < 0
    · rw [if_pos h0, if_pos (k h0)]
      intro h; exact absurd rfl h
    rw [if_neg h0]
    by_cases h1 : p ≤ 10
    · intro _; exact f h0 (g h1)
    rw [if_neg h1]
    by_cases h2 : p < 16
    · rw [if_pos h2]; intro h; exact absurd rfl h
    rw [if_neg h2]
    by_cases h3 : 48 ≤ p
    · rw [if_pos h3]; intro h; exact absurd rfl h
    · intro _; exact f h0 h3
theorem set_eq (p v : Int32) (sp : Nat → Int32) : f_Ref_set p v sp = f_Pro_set p v sp := by
  unfold f_Ref_set f_Pro_set
  rw [(isp_eq p).1]
  by_cases h : f_Pro_isSpecial p = 0
  · rw [if_pos h, if_pos h]
  · rw [if_neg h, if_neg h]
    unfold f_Sta_keep
    rw [and63 ((isp_eq p).2 h)]
theorem special_eq (p : Int32) (sp : Nat → Int32) : f_Ref_special p sp = f_Pro_special p sp := by
  unfold f_Ref_special f_Pro_special
  rw [(isp_eq p).1]
  by_cases h : f_Pro_isSpecial p = 0
  · rw [if_pos h, if_pos h]
  · rw [if_neg h, if_neg h]
    unfold f_Sta_read
    rw [and63 ((isp_eq p).2 h)]
theorem translate_eq (p q : Int32) (w sp : Nat → Int32) (en rr re : Int32) : (f_Ref_translate p q sp w rr re).1 = (f_Pro_translate p q w sp en).1 := by
  unfold f_Ref_translate f_Pro_translate
  by_cases h0 : q < 0
  · rw [if_pos h0, if_pos h0]
  rw [if_neg h0, if_neg h0]
  by_cases h1 : q ≤ 2
  · rw [if_pos h1, if_pos h1]
    dsimp only
    rcases loc_LR p q w sp with ⟨y0, za, hk⟩ | ⟨yr, za⟩
    · rw [if_pos y0, za]
    · rw [if_neg, za]
      intro z
      rw [z] at yr
      rcases yr with h | h | h <;> exact absurd h (by decide)
  · rw [if_neg h1, if_neg h1]
