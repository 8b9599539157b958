section ALL
variable (w g sp : Nat → Int32) (nx lt ex en iw id ia ib ii is iu rr re rw : Int32)
theorem opx_none (x0 : ¬ ii = 0) (x4 : ¬ ii = 4) (x8 : ¬ ii = 8) (x10 : ¬ ii = 10) (x11 : ¬ ii = 11) (x19 : ¬ ii = 19) (x23 : ¬ ii = 23) (x24 : ¬ ii = 24) (x26 : ¬ ii = 26) (x28 : ¬ ii = 28) (x32 : ¬ ii = 32) (x40 : ¬ ii = 40) (x60 : ¬ ii = 60) (x75 : ¬ ii = 75) (x83 : ¬ ii = 83) (x87 : ¬ ii = 87) (x104 : ¬ ii = 104) (x124 : ¬ ii = 124) (x136 : ¬ ii = 136) (x138 : ¬ ii = 138) (x144 : ¬ ii = 144) (x146 : ¬ ii = 146) (x151 : ¬ ii = 151) (x210 : ¬ ii = 210) (x215 : ¬ ii = 215) (x235 : ¬ ii = 235) (x266 : ¬ ii = 266) (x316 : ¬ ii = 316) (x339 : ¬ ii = 339) (x444 : ¬ ii = 444) (x459 : ¬ ii = 459) (x467 : ¬ ii = 467) (x476 : ¬ ii = 476) (x491 : ¬ ii = 491) (x536 : ¬ ii = 536) (x595 : ¬ ii = 595) (x598 : ¬ ii = 598) (x792 : ¬ ii = 792) (x824 : ¬ ii = 824) (x922 : ¬ ii = 922) (x954 : ¬ ii = 954) : IRu w g sp nx lt ex (f_Pro_performs w g sp nx lt ex en iw 31 id ia ib ii is iu) (f_Ref_extended ii g sp w lt rr re iw id ia ib nx 0 rw) := by
  have h1 : f_Cmp_runsExtended g sp nx lt ex id ia ib ii = (0, sp, nx, lt, ex) := by
    unfold f_Cmp_runsExtended
    rw [if_neg x0, if_neg x4, if_neg x32]
  have h2 : f_Ari_runsExtended g sp iw id ia ib ii = (0, g, sp) := by
    unfold f_Ari_runsExtended
    rw [if_neg x8, if_neg x10, if_neg x11, if_neg x40, if_neg x75, if_neg x104, if_neg x136, if_neg x138, if_neg x235, if_neg x266, if_neg x459, if_neg x491]
  have h3 : f_Log_runsExtended g sp iw id ia ib ii = (0, g, sp) := by
    unfold f_Log_runsExtended
    rw [if_neg x26, if_neg x28, if_neg x60, if_neg x124, if_neg x316, if_neg x444, if_neg x476, if_neg x922, if_neg x954]
  have h4 : f_Log_runsShift g sp iw id ia ib ii = (0, g, sp) := by
    unfold f_Log_runsShift
    rw [if_neg x24, if_neg x536, if_neg x792, if_neg x824]
  have h5 : f_Ctl_runs g sp nx lt ex iw id ia ib ii = (0, g, sp, nx, lt, ex) := by
    unfold f_Ctl_runs
    rw [if_neg x19, if_neg (show ¬ (ii = 83 ∨ ii = 146 ∨ ii = 210 ∨ ii = 595) from fun h => by rcases h with h | h | h | h <;> contradiction), if_neg x144, if_neg (show ¬ (ii = 339 ∨ ii = 467) from fun h => by rcases h with h | h <;> contradiction), if_neg x598]
  have h6 : f_Acc_plainForm ii = -1 := by
    unfold f_Acc_plainForm
    rw [if_neg x23, if_neg x87, if_neg x151, if_neg x215]
  have r1 : f_Ref_logic ii g sp iw id ia ib = (0, g, sp) := by
    unfold f_Ref_logic
    rw [if_neg x28, if_neg x444, if_neg x316, if_neg x60, if_neg x124, if_neg x476]
  have r2 : f_Ref_shifts ii g sp iw id ia ib = (0, g, sp) := by
    unfold f_Ref_shifts
    rw [if_neg x24, if_neg x536, if_neg x792]
    simp only [if_neg x824, if_neg x26, if_neg x954, if_neg x922]
  have r3 : f_Ref_arithmetic ii g sp iw id ia ib = (0, g, sp) := by
    unfold f_Ref_arithmetic
    rw [if_neg x266, if_neg x40, if_neg x10, if_neg x8, if_neg x138, if_neg x136, if_neg x104]
  have r4 : f_Ref_products ii g sp iw id ia ib = (0, g, sp) := by
    unfold f_Ref_products
    rw [if_neg x235, if_neg x75, if_neg x11, if_neg x491, if_neg x459]
  have r5 : f_Ref_system ii g sp lt iw id ia nx 0 = (0, g, sp, lt, nx, 0) := by
    unfold f_Ref_system
    rw [if_neg x19, if_neg x144, if_neg x83, if_neg x146, if_neg x210, if_neg x595, if_neg x598]
  have r6 : f_Ref_specials ii g sp lt id ia ib nx 0 = (0, g, sp, lt, nx, 0) := by
    unfold f_Ref_specials
    rw [if_neg x339, if_neg x467]
  rw [perf_idx w g sp nx lt ex en iw id ia ib is iu ii h1 h2 h3 h4 h5 h6, ext_non w g sp nx lt iw id ia ib rr re rw ii x0 x32 x4 x23 x87 x151 x215 r1 r2 r3 r4 r5 r6]
  exact ⟨rfl, rfl, rfl, rfl, rfl, rfl, rfl, rfl, rfl, rfl, rfl⟩
theorem opx_all (hd : vp_in id 32) (ha : vp_in ia 32) (hb : vp_in ib 32) : IRl ex (f_Pro_performs w g sp nx lt ex en iw 31 id ia ib ii is iu) (f_Ref_extended ii g sp w lt rr re iw id ia ib nx 0 rw) ∨ IRu w g sp nx lt ex (f_Pro_performs w g sp nx lt ex en iw 31 id ia ib ii is iu) (f_Ref_extended ii g sp w lt rr re iw id ia ib nx 0 rw) := by
  by_cases x0 : ii = 0
  · subst x0; exact Or.inl (opx0 w g sp nx lt ex en iw id ia ib is iu rr re rw hd ha hb)
  by_cases x4 : ii = 4
  · subst x4; exact Or.inl (opx4 w g sp nx lt ex en iw id ia ib is iu rr re rw hd ha hb)
  by_cases x8 : ii = 8
  · subst x8; exact Or.inl (opx8 w g sp nx lt ex en iw id ia ib is iu rr re rw hd ha hb)
  by_cases x10 : ii = 10
  · subst x10; exact Or.inl (opx10 w g sp nx lt ex en iw id ia ib is iu rr re rw hd ha hb)
  by_cases x11 : ii = 11
  · subst x11; exact Or.inl (opx11 w g sp nx lt ex en iw id ia ib is iu rr re rw hd ha hb)
  by_cases x19 : ii = 19
  · subst x19; exact Or.inl (opx19 w g sp nx lt ex en iw id ia ib is iu rr re rw hd ha hb)
  by_cases x23 : ii = 23
  · subst x23; exact Or.inl (opx23 w g sp nx lt ex en iw id ia ib is iu rr re rw hd ha hb)
  by_cases x24 : ii = 24
  · subst x24; exact Or.inl (opx24 w g sp nx lt ex en iw id ia ib is iu rr re rw hd ha hb)
  by_cases x26 : ii = 26
  · subst x26; exact Or.inl (opx26 w g sp nx lt ex en iw id ia ib is iu rr re rw hd ha hb)
  by_cases x28 : ii = 28
  · subst x28; exact Or.inl (opx28 w g sp nx lt ex en iw id ia ib is iu rr re rw hd ha hb)
  by_cases x32 : ii = 32
  · subst x32; exact Or.inl (opx32 w g sp nx lt ex en iw id ia ib is iu rr re rw hd ha hb)
  by_cases x40 : ii = 40
  · subst x40; exact Or.inl (opx40 w g sp nx lt ex en iw id ia ib is iu rr re rw hd ha hb)
  by_cases x60 : ii = 60
  · subst x60; exact Or.inl (opx60 w g sp nx lt ex en iw id ia ib is iu rr re rw hd ha hb)
  by_cases x75 : ii = 75
  · subst x75; exact Or.inl (opx75 w g sp nx lt ex en iw id ia ib is iu rr re rw hd ha hb)
  by_cases x83 : ii = 83
  · subst x83; exact Or.inl (opx83 w g sp nx lt ex en iw id ia ib is iu rr re rw hd ha hb)
  by_cases x87 : ii = 87
  · subst x87; exact Or.inl (opx87 w g sp nx lt ex en iw id ia ib is iu rr re rw hd ha hb)
  by_cases x104 : ii = 104
  · subst x104; exact Or.inl (opx104 w g sp nx lt ex en iw id ia ib is iu rr re rw hd ha hb)
  by_cases x124 : ii = 124
  · subst x124; exact Or.inl (opx124 w g sp nx lt ex en iw id ia ib is iu rr re rw hd ha hb)
  by_cases x136 : ii = 136
  · subst x136; exact Or.inl (opx136 w g sp nx lt ex en iw id ia ib is iu rr re rw hd ha hb)
  by_cases x138 : ii = 138
  · subst x138; exact Or.inl (opx138 w g sp nx lt ex en iw id ia ib is iu rr re rw hd ha hb)
  by_cases x144 : ii = 144
  · subst x144; exact Or.inl (opx144 w g sp nx lt ex en iw id ia ib is iu rr re rw hd ha hb)
  by_cases x146 : ii = 146
  · subst x146; exact Or.inl (opx146 w g sp nx lt ex en iw id ia ib is iu rr re rw hd ha hb)
  by_cases x151 : ii = 151
  · subst x151; exact Or.inl (opx151 w g sp nx lt ex en iw id ia ib is iu rr re rw hd ha hb)
  by_cases x210 : ii = 210
  · subst x210; exact Or.inl (opx210 w g sp nx lt ex en iw id ia ib is iu rr re rw hd ha hb)
  by_cases x215 : ii = 215
  · subst x215; exact Or.inl (opx215 w g sp nx lt ex en iw id ia ib is iu rr re rw hd ha hb)
  by_cases x235 : ii = 235
  · subst x235; exact Or.inl (opx235 w g sp nx lt ex en iw id ia ib is iu rr re rw hd ha hb)
  by_cases x266 : ii = 266
  · subst x266; exact Or.inl (opx266 w g sp nx lt ex en iw id ia ib is iu rr re rw hd ha hb)
  by_cases x316 : ii = 316
  · subst x316; exact Or.inl (opx316 w g sp nx lt ex en iw id ia ib is iu rr re rw hd ha hb)
  by_cases x339 : ii = 339
  · subst x339; exact opx339 w g sp nx lt ex en iw id ia ib is iu rr re rw hd ha hb
  by_cases x444 : ii = 444
  · subst x444; exact Or.inl (opx444 w g sp nx lt ex en iw id ia ib is iu rr re rw hd ha hb)
  by_cases x459 : ii = 459
  · subst x459; exact Or.inl (opx459 w g sp nx lt ex en iw id ia ib is iu rr re rw hd ha hb)
  by_cases x467 : ii = 467
  · subst x467; exact opx467 w g sp nx lt ex en iw id ia ib is iu rr re rw hd ha hb
  by_cases x476 : ii = 476
  · subst x476; exact Or.inl (opx476 w g sp nx lt ex en iw id ia ib is iu rr re rw hd ha hb)
  by_cases x491 : ii = 491
  · subst x491; exact Or.inl (opx491 w g sp nx lt ex en iw id ia ib is iu rr re rw hd ha hb)
  by_cases x536 : ii = 536
  · subst x536; exact Or.inl (opx536 w g sp nx lt ex en iw id ia ib is iu rr re rw hd ha hb)
  by_cases x595 : ii = 595
  · subst x595; exact Or.inl (opx595 w g sp nx lt ex en iw id ia ib is iu rr re rw hd ha hb)
  by_cases x598 : ii = 598
  · subst x598; exact Or.inl (opx598 w g sp nx lt ex en iw id ia ib is iu rr re rw hd ha hb)
  by_cases x792 : ii = 792
  · subst x792; exact Or.inl (opx792 w g sp nx lt ex en iw id ia ib is iu rr re rw hd ha hb)
  by_cases x824 : ii = 824
  · subst x824; exact Or.inl (opx824 w g sp nx lt ex en iw id ia ib is iu rr re rw hd ha hb)
  by_cases x922 : ii = 922
  · subst x922; exact Or.inl (opx922 w g sp nx lt ex en iw id ia ib is iu rr re rw hd ha hb)
  by_cases x954 : ii = 954
  · subst x954; exact Or.inl (opx954 w g sp nx lt ex en iw id ia ib is iu rr re rw hd ha hb)
  exact Or.inr (opx_none w g sp nx lt ex en iw id ia ib ii is iu rr re rw x0 x4 x8 x10 x11 x19 x23 x24 x26 x28 x32 x40 x60 x75 x83 x87 x104 x124 x136 x138 x144 x146 x151 x210 x215 x235 x266 x316 x339 x444 x459 x467 x476 x491 x536 x595 x598 x792 x824 x922 x954)
theorem op31 (hd : vp_in id 32) (ha : vp_in ia 32) (hb : vp_in ib 32) (hi : ii = shr iw 1 &&& 1023) : IRl ex (f_Pro_performs w g sp nx lt ex en iw 31 id ia ib ii is iu) (f_Ref_execute 31 g sp w lt rr re iw id ia ib nx 0 rw) ∨ IRu w g sp nx lt ex (f_Pro_performs w g sp nx lt ex en iw 31 id ia ib ii is iu) (f_Ref_execute 31 g sp w lt rr re iw id ia ib nx 0 rw) := by
  have e : f_Ref_execute 31 g sp w lt rr re iw id ia ib nx 0 rw = f_Ref_extended ii g sp w lt rr re iw id ia ib nx 0 rw := by
    rw [hi]
    rfl
  rw [e]
  exact opx_all w g sp nx lt ex en iw id ia ib ii is iu rr re rw hd ha hb
theorem op19 (hd : vp_in id 32) (ha : vp_in ia 32) (hb : vp_in ib 32) (hi : ii = shr iw 1 &&& 1023) (hn : nx = sp 0 + 4) : IRl ex (f_Pro_performs w g sp nx lt ex en iw 19 id ia ib ii is iu) (f_Ref_execute 19 g sp w lt rr re iw id ia ib nx 0 rw) ∨ IRu w g sp nx lt ex (f_Pro_performs w g sp nx lt ex en iw 19 id ia ib ii is iu) (f_Ref_execute 19 g sp w lt rr re iw id ia ib nx 0 rw) := by
  have e1 : f_Pro_performs w g sp nx lt ex en iw 19 id ia ib ii is iu = ((f_Bra_runsExtended sp nx lt ex iw id ia ib ii).1, w, g, (f_Bra_runsExtended sp nx lt ex iw id ia ib ii).2.1, (f_Bra_runsExtended sp nx lt ex iw id ia ib ii).2.2.1, (f_Bra_runsExtended sp nx lt ex iw id ia ib ii).2.2.2.1, (f_Bra_runsExtended sp nx lt ex iw id ia ib ii).2.2.2.2, en) := rfl
  have e2 : f_Ref_execute 19 g sp w lt rr re iw id ia ib nx 0 rw = (g, (f_Ref_conditions ii sp lt iw id ia ib nx 0).1, w, (f_Ref_conditions ii sp lt iw id ia ib nx 0).2.1, rr, re, (f_Ref_conditions ii sp lt iw id ia ib nx 0).2.2.1, (f_Ref_conditions ii sp lt iw id ia ib nx 0).2.2.2, rw) := by
    rw [hi]
    rfl
  rw [e1, e2]
  rcases cond_CR sp nx lt ex iw id ia ib ii hd ha hb hn with ⟨a1, a2, a3, a4, a5⟩ | ⟨a1, a2⟩
  · exact Or.inl ⟨a1, rfl, a2, rfl, a3, a4, a5⟩
  · rw [a1, a2]
    exact Or.inr ⟨rfl, rfl, rfl, rfl, rfl, rfl, rfl, rfl, rfl, rfl, rfl⟩
theorem op_all (io : Int32) (hio : ∃ k, k < 64 ∧ io = nI k) (hd : vp_in id 32) (ha : vp_in ia 32) (hb : vp_in ib 32) (hs : is = f_Ref_signed16 iw) (hu : iu = iw &&& 65535) (hi : ii = shr iw 1 &&& 1023) (hn : nx = sp 0 + 4) : IRl ex (f_Pro_performs w g sp nx lt ex en iw io id ia ib ii is iu) (f_Ref_execute io g sp w lt rr re iw id ia ib nx 0 rw) ∨ IRu w g sp nx lt ex (f_Pro_performs w g sp nx lt ex en iw io id ia ib ii is iu) (f_Ref_execute io g sp w lt rr re iw id ia ib nx 0 rw) := by
  obtain ⟨k, hk, rfl⟩ := hio
  have hk2 : k = 0 ∨ k = 1 ∨ k = 2 ∨ k = 3 ∨ k = 4 ∨ k = 5 ∨ k = 6 ∨ k = 7 ∨ k = 8 ∨ k = 9 ∨ k = 10 ∨ k = 11 ∨ k = 12 ∨ k = 13 ∨ k = 14 ∨ k = 15 ∨ k = 16 ∨ k = 17 ∨ k = 18 ∨ k = 19 ∨ k = 20 ∨ k = 21 ∨ k = 22 ∨ k = 23 ∨ k = 24 ∨ k = 25 ∨ k = 26 ∨ k = 27 ∨ k = 28 ∨ k = 29 ∨ k = 30 ∨ k = 31 ∨ k = 32 ∨ k = 33 ∨ k = 34 ∨ k = 35 ∨ k = 36 ∨ k = 37 ∨ k = 38 ∨ k = 39 ∨ k = 40 ∨ k = 41 ∨ k = 42 ∨ k = 43 ∨ k = 44 ∨ k = 45 ∨ k = 46 ∨ k = 47 ∨ k = 48 ∨ k = 49 ∨ k = 50 ∨ k = 51 ∨ k = 52 ∨ k = 53 ∨ k = 54 ∨ k = 55 ∨ k = 56 ∨ k = 57 ∨ k = 58 ∨ k = 59 ∨ k = 60 ∨ k = 61 ∨ k = 62 ∨ k = 63 := by omega
  rcases hk2 with rfl | rfl | rfl | rfl | rfl | rfl | rfl | rfl | rfl | rfl | rfl | rfl | rfl | rfl | rfl | rfl | rfl | rfl | rfl | rfl | rfl | rfl | rfl | rfl | rfl | rfl | rfl | rfl | rfl | rfl | rfl | rfl | rfl | rfl | rfl | rfl | rfl | rfl | rfl | rfl | rfl | rfl | rfl | rfl | rfl | rfl | rfl | rfl | rfl | rfl | rfl | rfl | rfl | rfl | rfl | rfl | rfl | rfl | rfl | rfl | rfl | rfl | rfl | rfl
  · exact Or.inr (op0 w g sp nx lt ex en iw id ia ib ii is iu rr re rw)
  · exact Or.inr (op1 w g sp nx lt ex en iw id ia ib ii is iu rr re rw)
  · exact Or.inr (op2 w g sp nx lt ex en iw id ia ib ii is iu rr re rw)
  · exact Or.inl (op3 w g sp nx lt ex en iw id ia ib ii is iu rr re rw hd ha hb hs hu)
  · exact Or.inr (op4 w g sp nx lt ex en iw id ia ib ii is iu rr re rw)
  · exact Or.inr (op5 w g sp nx lt ex en iw id ia ib ii is iu rr re rw)
  · exact Or.inr (op6 w g sp nx lt ex en iw id ia ib ii is iu rr re rw)
  · exact Or.inl (op7 w g sp nx lt ex en iw id ia ib ii is iu rr re rw hd ha hb hs hu)
  · exact Or.inl (op8 w g sp nx lt ex en iw id ia ib ii is iu rr re rw hd ha hb hs hu)
  · exact Or.inr (op9 w g sp nx lt ex en iw id ia ib ii is iu rr re rw)
  · exact Or.inl (op10 w g sp nx lt ex en iw id ia ib ii is iu rr re rw hd ha hb hs hu)
  · exact Or.inl (op11 w g sp nx lt ex en iw id ia ib ii is iu rr re rw hd ha hb hs hu)
  · exact Or.inl (op12 w g sp nx lt ex en iw id ia ib ii is iu rr re rw hd ha hb hs hu)
  · exact Or.inl (op13 w g sp nx lt ex en iw id ia ib ii is iu rr re rw hd ha hb hs hu)
  · exact Or.inl (op14 w g sp nx lt ex en iw id ia ib ii is iu rr re rw hd ha hb hs hu)
  · exact Or.inl (op15 w g sp nx lt ex en iw id ia ib ii is iu rr re rw hd ha hb hs hu)
  · exact Or.inl (op16 w g sp nx lt ex en iw id ia ib ii is iu rr re rw ha hs hn)
  · exact Or.inl (op17 w g sp nx lt ex en iw id ia ib ii is iu rr re rw hd ha hb hs hu)
  · exact Or.inl (op18 w g sp nx lt ex en iw id ia ib ii is iu rr re rw ha hn)
  · exact op19 w g sp nx lt ex en iw id ia ib ii is iu rr re rw hd ha hb hi hn
  · exact Or.inl (op20 w g sp nx lt ex en iw id ia ib ii is iu rr re rw hd ha hb)
  · exact Or.inl (op21 w g sp nx lt ex en iw id ia ib ii is iu rr re rw hd ha hb)
  · exact Or.inr (op22 w g sp nx lt ex en iw id ia ib ii is iu rr re rw)
  · exact Or.inl (op23 w g sp nx lt ex en iw id ia ib ii is iu rr re rw hd ha hb)
  · exact Or.inl (op24 w g sp nx lt ex en iw id ia ib ii is iu rr re rw hd ha hb hs hu)
  · exact Or.inl (op25 w g sp nx lt ex en iw id ia ib ii is iu rr re rw hd ha hb hs hu)
  · exact Or.inl (op26 w g sp nx lt ex en iw id ia ib ii is iu rr re rw hd ha hb hs hu)
  · exact Or.inl (op27 w g sp nx lt ex en iw id ia ib ii is iu rr re rw hd ha hb hs hu)
  · exact Or.inl (op28 w g sp nx lt ex en iw id ia ib ii is iu rr re rw hd ha hb hs hu)
  · exact Or.inl (op29 w g sp nx lt ex en iw id ia ib ii is iu rr re rw hd ha hb hs hu)
  · exact Or.inr (op30 w g sp nx lt ex en iw id ia ib ii is iu rr re rw)
  · exact op31 w g sp nx lt ex en iw id ia ib ii is iu rr re rw hd ha hb hi
  · exact Or.inl (op32 w g sp nx lt ex en iw id ia ib ii is iu rr re rw hd ha hb hs)
  · exact op33 w g sp nx lt ex en iw id ia ib ii is iu rr re rw hd ha hb hs
  · exact Or.inl (op34 w g sp nx lt ex en iw id ia ib ii is iu rr re rw hd ha hb hs)
  · exact op35 w g sp nx lt ex en iw id ia ib ii is iu rr re rw hd ha hb hs
  · exact Or.inl (op36 w g sp nx lt ex en iw id ia ib ii is iu rr re rw hd ha hb hs)
  · exact op37 w g sp nx lt ex en iw id ia ib ii is iu rr re rw hd ha hb hs
  · exact Or.inl (op38 w g sp nx lt ex en iw id ia ib ii is iu rr re rw hd ha hb hs)
  · exact op39 w g sp nx lt ex en iw id ia ib ii is iu rr re rw hd ha hb hs
  · exact Or.inl (op40 w g sp nx lt ex en iw id ia ib ii is iu rr re rw hd ha hb hs)
  · exact Or.inr (op41 w g sp nx lt ex en iw id ia ib ii is iu rr re rw)
  · exact Or.inl (op42 w g sp nx lt ex en iw id ia ib ii is iu rr re rw hd ha hb hs)
  · exact Or.inr (op43 w g sp nx lt ex en iw id ia ib ii is iu rr re rw)
  · exact Or.inl (op44 w g sp nx lt ex en iw id ia ib ii is iu rr re rw hd ha hb hs)
  · exact Or.inr (op45 w g sp nx lt ex en iw id ia ib ii is iu rr re rw)
  · exact Or.inr (op46 w g sp nx lt ex en iw id ia ib ii is iu rr re rw)
  · exact Or.inr (op47 w g sp nx lt ex en iw id ia ib ii is iu rr re rw)
  · exact Or.inr (op48 w g sp nx lt ex en iw id ia ib ii is iu rr re rw)
  · exact Or.inr (op49 w g sp nx lt ex en iw id ia ib ii is iu rr re rw)
  · exact Or.inr (op50 w g sp nx lt ex en iw id ia ib ii is iu rr re rw)
  · exact Or.inr (op51 w g sp nx lt ex en iw id ia ib ii is iu rr re rw)
  · exact Or.inr (op52 w g sp nx lt ex en iw id ia ib ii is iu rr re rw)
  · exact Or.inr (op53 w g sp nx lt ex en iw id ia ib ii is iu rr re rw)
  · exact Or.inr (op54 w g sp nx lt ex en iw id ia ib ii is iu rr re rw)
  · exact Or.inr (op55 w g sp nx lt ex en iw id ia ib ii is iu rr re rw)
  · exact Or.inr (op56 w g sp nx lt ex en iw id ia ib ii is iu rr re rw)
  · exact Or.inr (op57 w g sp nx lt ex en iw id ia ib ii is iu rr re rw)
  · exact Or.inr (op58 w g sp nx lt ex en iw id ia ib ii is iu rr re rw)
  · exact Or.inr (op59 w g sp nx lt ex en iw id ia ib ii is iu rr re rw)
  · exact Or.inr (op60 w g sp nx lt ex en iw id ia ib ii is iu rr re rw)
  · exact Or.inr (op61 w g sp nx lt ex en iw id ia ib ii is iu rr re rw)
  · exact Or.inr (op62 w g sp nx lt ex en iw id ia ib ii is iu rr re rw)
  · exact Or.inr (op63 w g sp nx lt ex en iw id ia ib ii is iu rr re rw)
end ALL
