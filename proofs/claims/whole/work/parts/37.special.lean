set_option maxRecDepth 100000 in
theorem spc_all : ∀ k, k < 1024 → f_Ref_registerOf (nI k) = f_Ctl_specialOf (nI k) ∧ (f_Ctl_specialOf (nI k) = -1 ∨ ¬ (f_Ctl_specialOf (nI k) < 0 ∨ 48 ≤ (f_Ctl_specialOf (nI k)).toNatClampNeg)) := by decide +kernel
theorem spc (ia ib : Int32) (ha : vp_in ia 32) (hb : vp_in ib 32) : f_Ref_registerOf (ib * 32 + ia) = f_Ctl_specialOf (ib * 32 + ia) ∧ (f_Ctl_specialOf (ib * 32 + ia) = -1 ∨ vp_in (f_Ctl_specialOf (ib * 32 + ia)) 48) := by
  obtain ⟨k, hk, rfl⟩ := vp_in_of ha (by decide)
  obtain ⟨q, hq, rfl⟩ := vp_in_of hb (by decide)
  have e : nI q * 32 + nI k = nI (q * 32 + k) := by
    rw [show (32 : Int32) = nI 32 from rfl, pk_mul, show nI (q * 32) + nI k = nI (q * 32 + k) from (Int32.ofNat_add _ _).symm]
  rw [e]
  exact spc_all _ (by omega)
theorem nn48 {x : Int32} (h : vp_in x 48) : 0 ≤ x := by
  obtain ⟨k, hk, rfl⟩ := vp_in_of h (by decide)
  exact (by decide +kernel : ∀ k, k < 48 → (0 : Int32) ≤ nI k) k hk
section OPX4
variable (w g sp : Nat → Int32) (nx lt ex en iw id ia ib is iu rr re rw : Int32)
theorem opx339 (hd : vp_in id 32) (ha : vp_in ia 32) (hb : vp_in ib 32) : IRl ex (f_Pro_performs w g sp nx lt ex en iw 31 id ia ib 339 is iu) (f_Ref_extended 339 g sp w lt rr re iw id ia ib nx 0 rw) ∨ IRu w g sp nx lt ex (f_Pro_performs w g sp nx lt ex en iw 31 id ia ib 339 is iu) (f_Ref_extended 339 g sp w lt rr re iw id ia ib nx 0 rw) := by
  obtain ⟨s1, s2⟩ := spc ia ib ha hb
  have hc0 : f_Ctl_runs g sp nx lt ex iw id ia ib 339 = f_Ctl_movesSpecial g sp nx lt ex id ia ib 339 := rfl
  have hs0 : f_Ref_system 339 g sp lt iw id ia nx 0 = (0, g, sp, lt, nx, 0) := rfl
  rcases s2 with s2 | s2
  · right
    have hm : f_Ctl_movesSpecial g sp nx lt ex id ia ib 339 = (0, g, sp, nx, lt, ex) := by
      unfold f_Ctl_movesSpecial
      rw [if_pos s2]
    have hr : f_Ref_specials 339 g sp lt id ia ib nx 0 = (1, g, (f_Ref_unlisted sp).1, (f_Ref_unlisted sp).2.1, (f_Ref_unlisted sp).2.2.1, (f_Ref_unlisted sp).2.2.2) := by
      unfold f_Ref_specials
      rw [s1, s2, if_pos rfl, if_neg (show ¬ (0 : Int32) ≤ -1 from by decide)]
    rw [perf_idx w g sp nx lt ex en iw id ia ib is iu 339 rfl rfl rfl rfl (hc0.trans hm) rfl, ext_spc w g sp nx lt iw id ia ib rr re rw 339 _ (by decide) (by decide) (by decide) (by decide) (by decide) (by decide) (by decide) rfl rfl rfl rfl hs0 hr rfl]
    exact ⟨rfl, rfl, rfl, rfl, rfl, rfl, rfl, rfl, rfl, rfl, rfl⟩
  · left
    have n1 : ¬ f_Ctl_specialOf (ib * 32 + ia) = -1 := by
      intro q
      rw [q] at s2
      exact absurd s2 (by unfold vp_in; decide)
    have a6 := and63 s2
    have nn := nn48 s2
    obtain ⟨s, hs⟩ : ∃ s, f_Ctl_specialOf (ib * 32 + ia) = s := ⟨_, rfl⟩
    rw [hs] at s1 s2 n1 a6 nn
    have pb : (s = 3 ∨ s = 4 ∨ s = 5) → f_Ctl_movesSpecial g sp nx lt ex id ia ib 339 = (1, upd g (ix (id &&& 31)) (sp (ix (s &&& 63))), sp, nx, lt, ex) ∧ f_Ref_specials 339 g sp lt id ia ib nx 0 = (1, upd g (ix id) (sp (ix s)), upd sp (ix s) (sp (ix s)), lt, nx, 0) := by
      intro h
      unfold f_Ctl_movesSpecial f_Ref_specials
      rw [hs, s1]
      rcases h with rfl | rfl | rfl <;> exact ⟨rfl, rfl⟩
    have pn : ¬ s = 3 → ¬ s = 4 → ¬ s = 5 → (f_Ctl_movesSpecial g sp nx lt ex id ia ib 339 = (1, upd g (ix (id &&& 31)) (sp (ix (s &&& 63))), sp, nx, lt, ex) ∧ f_Ref_specials 339 g sp lt id ia ib nx 0 = (1, upd g (ix id) (sp (ix s)), upd sp (ix s) (sp (ix s)), lt, nx, 0)) ∨ (f_Ctl_movesSpecial g sp nx lt ex id ia ib 339 = (1, g, (f_Sta_raise 1792 262144 sp ex).1, 1792, 1792, ex + 1) ∧ f_Ref_specials 339 g sp lt id ia ib nx 0 = (1, g, (f_Sta_raise 1792 262144 sp ex).1, 1792, 1792, 1)) := by
      intro n3 n4 n5
      unfold f_Ctl_movesSpecial f_Ref_specials
      rw [hs, s1, if_neg n1]
      rcases bar sp nx lt ex with ⟨b1, b2⟩ | ⟨b1, b2⟩
      · left
        simp only [if_neg n3, if_neg n4, if_neg n5, b1, b2, if_true, if_pos nn]
        exact ⟨rfl, by first | trivial | rfl⟩
      · right
        simp only [if_neg n3, if_neg n4, if_neg n5, b1, b2, if_true, if_neg n10, if_pos nn, and_true]
    have fin : f_Ctl_movesSpecial g sp nx lt ex id ia ib 339 = (1, upd g (ix (id &&& 31)) (sp (ix (s &&& 63))), sp, nx, lt, ex) ∧ f_Ref_specials 339 g sp lt id ia ib nx 0 = (1, upd g (ix id) (sp (ix s)), upd sp (ix s) (sp (ix s)), lt, nx, 0) → IRl ex (f_Pro_performs w g sp nx lt ex en iw 31 id ia ib 339 is iu) (f_Ref_extended 339 g sp w lt rr re iw id ia ib nx 0 rw) := by
      rintro ⟨hm, hr⟩
      rw [perf_ctl w g sp nx lt ex en iw id ia ib is iu 339 _ rfl rfl rfl rfl (hc0.trans hm) rfl, ext_spc w g sp nx lt iw id ia ib rr re rw 339 _ (by decide) (by decide) (by decide) (by decide) (by decide) (by decide) (by decide) rfl rfl rfl rfl hs0 hr rfl, and31 hd, a6, upd_self]
      exact ⟨rfl, rfl, rfl, rfl, rfl, rfl, Or.inl ⟨rfl, rfl⟩⟩
    by_cases n3 : s = 3
    · exact fin (pb (Or.inl n3))
    by_cases n4 : s = 4
    · exact fin (pb (Or.inr (Or.inl n4)))
    by_cases n5 : s = 5
    · exact fin (pb (Or.inr (Or.inr n5)))
    rcases pn n3 n4 n5 with h | ⟨hm, hr⟩
    · exact fin h
    · rw [perf_ctl w g sp nx lt ex en iw id ia ib is iu 339 _ rfl rfl rfl rfl (hc0.trans hm) rfl, ext_spc w g sp nx lt iw id ia ib rr re rw 339 _ (by decide) (by decide) (by decide) (by decide) (by decide) (by decide) (by decide) rfl rfl rfl rfl hs0 hr rfl]
      exact ⟨rfl, rfl, rfl, rfl, rfl, rfl, Or.inr ⟨rfl, rfl⟩⟩

theorem opx467 (hd : vp_in id 32) (ha : vp_in ia 32) (hb : vp_in ib 32) : IRl ex (f_Pro_performs w g sp nx lt ex en iw 31 id ia ib 467 is iu) (f_Ref_extended 467 g sp w lt rr re iw id ia ib nx 0 rw) ∨ IRu w g sp nx lt ex (f_Pro_performs w g sp nx lt ex en iw 31 id ia ib 467 is iu) (f_Ref_extended 467 g sp w lt rr re iw id ia ib nx 0 rw) := by
  obtain ⟨s1, s2⟩ := spc ia ib ha hb
  have hc0 : f_Ctl_runs g sp nx lt ex iw id ia ib 467 = f_Ctl_movesSpecial g sp nx lt ex id ia ib 467 := rfl
  have hs0 : f_Ref_system 467 g sp lt iw id ia nx 0 = (0, g, sp, lt, nx, 0) := rfl
  rcases s2 with s2 | s2
  · right
    have hm : f_Ctl_movesSpecial g sp nx lt ex id ia ib 467 = (0, g, sp, nx, lt, ex) := by
      unfold f_Ctl_movesSpecial
      rw [if_pos s2]
    have hr : f_Ref_specials 467 g sp lt id ia ib nx 0 = (1, g, (f_Ref_unlisted sp).1, (f_Ref_unlisted sp).2.1, (f_Ref_unlisted sp).2.2.1, (f_Ref_unlisted sp).2.2.2) := by
      unfold f_Ref_specials
      rw [s1, s2, if_neg (show ¬ (467 : Int32) = 339 from by decide), if_pos rfl, if_neg (show ¬ (0 : Int32) ≤ -1 from by decide)]
    rw [perf_idx w g sp nx lt ex en iw id ia ib is iu 467 rfl rfl rfl rfl (hc0.trans hm) rfl, ext_spc w g sp nx lt iw id ia ib rr re rw 467 _ (by decide) (by decide) (by decide) (by decide) (by decide) (by decide) (by decide) rfl rfl rfl rfl hs0 hr rfl]
    exact ⟨rfl, rfl, rfl, rfl, rfl, rfl, rfl, rfl, rfl, rfl, rfl⟩
  · left
    have n1 : ¬ f_Ctl_specialOf (ib * 32 + ia) = -1 := by
      intro q
      rw [q] at s2
      exact absurd s2 (by unfold vp_in; decide)
    have a6 := and63 s2
    have nn := nn48 s2
    obtain ⟨s, hs⟩ : ∃ s, f_Ctl_specialOf (ib * 32 + ia) = s := ⟨_, rfl⟩
    rw [hs] at s1 s2 n1 a6 nn
    have pb : (s = 3 ∨ s = 4 ∨ s = 5) → f_Ctl_movesSpecial g sp nx lt ex id ia ib 467 = (1, g, upd sp (ix (s &&& 63)) (g (ix (id &&& 31))), nx, lt, ex) ∧ f_Ref_specials 467 g sp lt id ia ib nx 0 = (1, upd g (ix id) (g (ix id)), upd sp (ix s) ((upd g (ix id) (g (ix id))) (ix id)), lt, nx, 0) := by
      intro h
      unfold f_Ctl_movesSpecial f_Ref_specials
      rw [hs, s1]
      rcases h with rfl | rfl | rfl <;> exact ⟨rfl, rfl⟩
    have pn : ¬ s = 3 → ¬ s = 4 → ¬ s = 5 → (f_Ctl_movesSpecial g sp nx lt ex id ia ib 467 = (1, g, upd sp (ix (s &&& 63)) (g (ix (id &&& 31))), nx, lt, ex) ∧ f_Ref_specials 467 g sp lt id ia ib nx 0 = (1, upd g (ix id) (g (ix id)), upd sp (ix s) ((upd g (ix id) (g (ix id))) (ix id)), lt, nx, 0)) ∨ (f_Ctl_movesSpecial g sp nx lt ex id ia ib 467 = (1, g, (f_Sta_raise 1792 262144 sp ex).1, 1792, 1792, ex + 1) ∧ f_Ref_specials 467 g sp lt id ia ib nx 0 = (1, g, (f_Sta_raise 1792 262144 sp ex).1, 1792, 1792, 1)) := by
      intro n3 n4 n5
      unfold f_Ctl_movesSpecial f_Ref_specials
      rw [hs, s1, if_neg n1]
      rcases bar sp nx lt ex with ⟨b1, b2⟩ | ⟨b1, b2⟩
      · left
        simp only [if_neg n3, if_neg n4, if_neg n5, b1, b2, if_true, if_neg (show ¬ (467 : Int32) = 339 from by decide), if_pos nn]
        exact ⟨rfl, by first | trivial | rfl⟩
      · right
        simp only [if_neg n3, if_neg n4, if_neg n5, b1, b2, if_true, if_neg n10, if_neg (show ¬ (467 : Int32) = 339 from by decide), if_pos nn, and_true]
    have fin : f_Ctl_movesSpecial g sp nx lt ex id ia ib 467 = (1, g, upd sp (ix (s &&& 63)) (g (ix (id &&& 31))), nx, lt, ex) ∧ f_Ref_specials 467 g sp lt id ia ib nx 0 = (1, upd g (ix id) (g (ix id)), upd sp (ix s) ((upd g (ix id) (g (ix id))) (ix id)), lt, nx, 0) → IRl ex (f_Pro_performs w g sp nx lt ex en iw 31 id ia ib 467 is iu) (f_Ref_extended 467 g sp w lt rr re iw id ia ib nx 0 rw) := by
      rintro ⟨hm, hr⟩
      rw [perf_ctl w g sp nx lt ex en iw id ia ib is iu 467 _ rfl rfl rfl rfl (hc0.trans hm) rfl, ext_spc w g sp nx lt iw id ia ib rr re rw 467 _ (by decide) (by decide) (by decide) (by decide) (by decide) (by decide) (by decide) rfl rfl rfl rfl hs0 hr rfl, and31 hd, a6, upd_self]
      exact ⟨rfl, rfl, rfl, rfl, rfl, rfl, Or.inl ⟨rfl, rfl⟩⟩
    by_cases n3 : s = 3
    · exact fin (pb (Or.inl n3))
    by_cases n4 : s = 4
    · exact fin (pb (Or.inr (Or.inl n4)))
    by_cases n5 : s = 5
    · exact fin (pb (Or.inr (Or.inr n5)))
    rcases pn n3 n4 n5 with h | ⟨hm, hr⟩
    · exact fin h
    · rw [perf_ctl w g sp nx lt ex en iw id ia ib is iu 467 _ rfl rfl rfl rfl (hc0.trans hm) rfl, ext_spc w g sp nx lt iw id ia ib rr re rw 467 _ (by decide) (by decide) (by decide) (by decide) (by decide) (by decide) (by decide) rfl rfl rfl rfl hs0 hr rfl]
      exact ⟨rfl, rfl, rfl, rfl, rfl, rfl, Or.inr ⟨rfl, rfl⟩⟩

end OPX4
