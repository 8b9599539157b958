theorem mask5 (x y : Int32) : f_Ref_mask (x &&& 31) (y &&& 31) = f_Log_mask (x &&& 31) (y &&& 31) := by
  obtain ⟨m, hm, e1⟩ := five x
  obtain ⟨n, hn, e2⟩ := five y
  rw [e1, e2]
  exact mask_eq m hm n hn
theorem turn5 (v x : Int32) : f_Ref_turned v (x &&& 31) = f_Int_rotateLeft v (x &&& 31) := by
  obtain ⟨m, hm, e1⟩ := five x
  rw [e1]
  exact turned_eq v hm
theorem turnb (v : Int32) {x : Int32} (h : vp_in x 32) : f_Ref_turned v x = f_Int_rotateLeft v x := by
  rw [← and31 h]
  exact turn5 v x
section OPS2
variable (w g sp : Nat → Int32) (nx lt ex en iw id ia ib ii is iu rr re rw : Int32)
theorem op20 (hd : vp_in id 32) (ha : vp_in ia 32) (hb : vp_in ib 32) : IRl ex (f_Pro_performs w g sp nx lt ex en iw 20 id ia ib ii is iu) (f_Ref_execute 20 g sp w lt rr re iw id ia ib nx 0 rw) := by
  have e1 : f_Pro_performs w g sp nx lt ex en iw 20 id ia ib ii is iu = (1, w, (f_Sta_keepResult ia ((g (ix (ia &&& 31)) &&& (f_Log_mask ((shr iw 6) &&& 31) ((shr iw 1) &&& 31) ^^^ -1)) ||| (f_Int_rotateLeft (g (ix (id &&& 31))) ib &&& f_Log_mask ((shr iw 6) &&& 31) ((shr iw 1) &&& 31))) (f_Ins_has 1 iw) g sp).1, (f_Sta_keepResult ia ((g (ix (ia &&& 31)) &&& (f_Log_mask ((shr iw 6) &&& 31) ((shr iw 1) &&& 31) ^^^ -1)) ||| (f_Int_rotateLeft (g (ix (id &&& 31))) ib &&& f_Log_mask ((shr iw 6) &&& 31) ((shr iw 1) &&& 31))) (f_Ins_has 1 iw) g sp).2, nx, lt, ex, en) := rfl
  have e2 : f_Ref_execute 20 g sp w lt rr re iw id ia ib nx 0 rw = ((f_Ref_result ia ((g (ix ia) &&& (f_Ref_mask ((shr iw 6) &&& 31) ((shr iw 1) &&& 31) ^^^ -1)) ||| (f_Ref_turned (g (ix id)) ib &&& f_Ref_mask ((shr iw 6) &&& 31) ((shr iw 1) &&& 31))) g sp iw).1, (f_Ref_result ia ((g (ix ia) &&& (f_Ref_mask ((shr iw 6) &&& 31) ((shr iw 1) &&& 31) ^^^ -1)) ||| (f_Ref_turned (g (ix id)) ib &&& f_Ref_mask ((shr iw 6) &&& 31) ((shr iw 1) &&& 31))) g sp iw).2, w, lt, rr, re, nx, 0, rw) := rfl
  rw [e1, e2, and31 hd, and31 ha, res_eq ha, mask5, turnb _ hb]
  exact ⟨rfl, rfl, rfl, rfl, rfl, rfl, Or.inl ⟨rfl, rfl⟩⟩
theorem op21 (hd : vp_in id 32) (ha : vp_in ia 32) (hb : vp_in ib 32) : IRl ex (f_Pro_performs w g sp nx lt ex en iw 21 id ia ib ii is iu) (f_Ref_execute 21 g sp w lt rr re iw id ia ib nx 0 rw) := by
  have e1 : f_Pro_performs w g sp nx lt ex en iw 21 id ia ib ii is iu = (1, w, (f_Sta_keepResult ia (0 ||| (f_Int_rotateLeft (g (ix (id &&& 31))) ib &&& f_Log_mask ((shr iw 6) &&& 31) ((shr iw 1) &&& 31))) (f_Ins_has 1 iw) g sp).1, (f_Sta_keepResult ia (0 ||| (f_Int_rotateLeft (g (ix (id &&& 31))) ib &&& f_Log_mask ((shr iw 6) &&& 31) ((shr iw 1) &&& 31))) (f_Ins_has 1 iw) g sp).2, nx, lt, ex, en) := rfl
  have e2 : f_Ref_execute 21 g sp w lt rr re iw id ia ib nx 0 rw = ((f_Ref_result ia (f_Ref_turned (g (ix id)) ib &&& f_Ref_mask ((shr iw 6) &&& 31) ((shr iw 1) &&& 31)) g sp iw).1, (f_Ref_result ia (f_Ref_turned (g (ix id)) ib &&& f_Ref_mask ((shr iw 6) &&& 31) ((shr iw 1) &&& 31)) g sp iw).2, w, lt, rr, re, nx, 0, rw) := rfl
  rw [e1, e2, and31 hd, res_eq ha, mask5, turnb _ hb, Int32.zero_or]
  exact ⟨rfl, rfl, rfl, rfl, rfl, rfl, Or.inl ⟨rfl, rfl⟩⟩
theorem op23 (hd : vp_in id 32) (ha : vp_in ia 32) (hb : vp_in ib 32) : IRl ex (f_Pro_performs w g sp nx lt ex en iw 23 id ia ib ii is iu) (f_Ref_execute 23 g sp w lt rr re iw id ia ib nx 0 rw) := by
  have e1 : f_Pro_performs w g sp nx lt ex en iw 23 id ia ib ii is iu = (1, w, (f_Sta_keepResult ia (0 ||| (f_Int_rotateLeft (g (ix (id &&& 31))) (g (ix (ib &&& 31)) &&& 31) &&& f_Log_mask ((shr iw 6) &&& 31) ((shr iw 1) &&& 31))) (f_Ins_has 1 iw) g sp).1, (f_Sta_keepResult ia (0 ||| (f_Int_rotateLeft (g (ix (id &&& 31))) (g (ix (ib &&& 31)) &&& 31) &&& f_Log_mask ((shr iw 6) &&& 31) ((shr iw 1) &&& 31))) (f_Ins_has 1 iw) g sp).2, nx, lt, ex, en) := rfl
  have e2 : f_Ref_execute 23 g sp w lt rr re iw id ia ib nx 0 rw = ((f_Ref_result ia (f_Ref_turned (g (ix id)) (g (ix ib) &&& 31) &&& f_Ref_mask ((shr iw 6) &&& 31) ((shr iw 1) &&& 31)) g sp iw).1, (f_Ref_result ia (f_Ref_turned (g (ix id)) (g (ix ib) &&& 31) &&& f_Ref_mask ((shr iw 6) &&& 31) ((shr iw 1) &&& 31)) g sp iw).2, w, lt, rr, re, nx, 0, rw) := rfl
  rw [e1, e2, and31 hd, and31 hb, res_eq ha, mask5, turn5, Int32.zero_or]
  exact ⟨rfl, rfl, rfl, rfl, rfl, rfl, Or.inl ⟨rfl, rfl⟩⟩
end OPS2
theorem br_eq (d to fh rc nx : Int32) {k : Nat} (hk : k < 32) (sp : Nat → Int32) (hn : nx = sp 0 + 4) : f_Ref_branch d to fh sp rc (nI k) = f_Bra_branch (f_Bra_taken d (nI k) sp).1 (if fh = 0 then to else (f_Bra_taken d (nI k) sp).2 0 + to) (f_Bra_taken d (nI k) sp).2 nx rc := by
  have r5 : ∀ s : Nat → Int32, f_Sta_read 5 s = s 5 := fun _ => rfl
  have r0 : ∀ s : Nat → Int32, f_Sta_read 0 s = s 0 := fun _ => rfl
  have k5 : ∀ (v : Int32) (s : Nat → Int32), f_Sta_keep 5 v s = upd s 5 v := fun _ _ => rfl
  have k4 : ∀ (v : Int32) (s : Nat → Int32), f_Sta_keep 4 v s = upd s 4 v := fun _ _ => rfl
  have cb : ∀ s : Nat → Int32, f_Sta_conditionBit (nI k) s = f_Ref_crBit (nI k) s := fun s => by rw [cond_bit hk, cr_bit hk]
  have b2 : (d &&& 4) = 0 ↔ f_Ref_bit d 2 = 0 := (mtest d 2 (by omega)).trans (rbit0 d 2 (by omega)).symm
  have b4 : (d &&& 16) = 0 ↔ f_Ref_bit d 4 = 0 := (mtest d 4 (by omega)).trans (rbit0 d 4 (by omega)).symm
  have b1 : (if (d &&& 2) = 0 then (0 : Int32) else 1) = f_Ref_bit d 1 := by
    have q : (d &&& 2) = 0 ↔ bt d 1 = false := mtest d 1 (by omega)
    have e : f_Ref_bit d 1 = ob (bt d 1) := rbit d 1 (by omega)
    rw [e]
    cases h : bt d 1
    · rw [if_pos (q.mpr h)]; rfl
    · rw [if_neg (fun z => by rw [q.mp z] at h; cases h)]; rfl
  have b3 : shr d 3 &&& 1 = f_Ref_bit d 3 := (shr_1 d 3 (by omega)).trans (rbit d 3 (by omega)).symm
  subst hn
  unfold f_Ref_branch f_Bra_branch f_Bra_taken f_Sta_goTo
  simp only [r5, r0, k5, k4, cb, b2, b4, b1, b3, has1, bit0]
  have u0 : ∀ (s : Nat → Int32) (v : Int32), upd s 5 v 0 = s 0 := fun s v => upd_ne s v (by decide)
  have u4 : ∀ (s : Nat → Int32) (v : Int32), upd s 4 v 0 = s 0 := fun s v => upd_ne s v (by decide)
  simp only [u0, u4, upd_at]
  generalize (if (if sp 5 - 1 = 0 then (1 : Int32) else 0) = f_Ref_bit d 1 then (1 : Int32) else 0) = T1
  by_cases h2 : f_Ref_bit d 2 = 0
  · simp only [if_pos h2]
    by_cases h4 : f_Ref_bit d 4 = 0
    · simp only [if_pos h4]
      generalize (if f_Ref_crBit (nI k) (upd sp 5 (sp 5 - 1)) = f_Ref_bit d 3 then (1 : Int32) else 0) = T2
      cases bt rc 0 <;> by_cases t1 : T1 = 0 <;> by_cases t2 : T2 = 0 <;> simp [t1, t2, ob, u0, u4]
    · simp only [if_neg h4]
      cases bt rc 0 <;> by_cases t1 : T1 = 0 <;> simp [t1, ob, u0, u4]
  · simp only [if_neg h2]
    by_cases h4 : f_Ref_bit d 4 = 0
    · simp only [if_pos h4]
      generalize (if f_Ref_crBit (nI k) sp = f_Ref_bit d 3 then (1 : Int32) else 0) = T2
      cases bt rc 0 <;> by_cases t2 : T2 = 0 <;> simp [t2, ob, u0, u4]
    · simp only [if_neg h4]
      cases bt rc 0 <;> simp [ob, u0, u4]
