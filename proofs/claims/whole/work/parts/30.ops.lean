/-- what one instruction does, on both sides: a listed one -/
def IRl (ex : Int32) (z : Int32 × (Nat → Int32) × (Nat → Int32) × (Nat → Int32) × Int32 × Int32 × Int32 × Int32) (y : (Nat → Int32) × (Nat → Int32) × (Nat → Int32) × Int32 × Int32 × Int32 × Int32 × Int32 × Int32) : Prop :=
  z.1 = 1 ∧ y.1 = z.2.2.1 ∧ y.2.1 = z.2.2.2.1 ∧ y.2.2.1 = z.2.1 ∧ y.2.2.2.1 = z.2.2.2.2.2.1 ∧ y.2.2.2.2.2.2.1 = z.2.2.2.2.1 ∧ ((y.2.2.2.2.2.2.2.1 = 0 ∧ z.2.2.2.2.2.2.1 = ex) ∨ (y.2.2.2.2.2.2.2.1 = 1 ∧ z.2.2.2.2.2.2.1 = ex + 1))
/-- one that is not listed: the class changes nothing yet, the reference has made its exception -/
def IRu (w g sp : Nat → Int32) (nx lt ex : Int32) (z : Int32 × (Nat → Int32) × (Nat → Int32) × (Nat → Int32) × Int32 × Int32 × Int32 × Int32) (y : (Nat → Int32) × (Nat → Int32) × (Nat → Int32) × Int32 × Int32 × Int32 × Int32 × Int32 × Int32) : Prop :=
  z.1 = 0 ∧ z.2.1 = w ∧ z.2.2.1 = g ∧ z.2.2.2.1 = sp ∧ z.2.2.2.2.2.2.1 = ex ∧ y.1 = g ∧ y.2.1 = (f_Sta_raise 1792 524288 sp ex).1 ∧ y.2.2.1 = w ∧ y.2.2.2.1 = 1792 ∧ y.2.2.2.2.2.2.1 = 1792 ∧ y.2.2.2.2.2.2.2.1 = 1
theorem rz_eq {ia : Int32} (ha : vp_in ia 32) {g : Nat → Int32} : f_Sta_registerOrZero ia g = f_Ref_a0 g ia := by
  unfold f_Sta_registerOrZero f_Ref_a0 f_Sta_register
  rw [and31 ha]
section OPS
variable (w g sp : Nat → Int32) (nx lt ex en iw id ia ib ii is iu rr re rw : Int32)
theorem op7 (hd : vp_in id 32) (ha : vp_in ia 32) (hb : vp_in ib 32) (hs : is = f_Ref_signed16 iw) (hu : iu = iw &&& 65535) : IRl ex (f_Pro_performs w g sp nx lt ex en iw 7 id ia ib ii is iu) (f_Ref_execute 7 g sp w lt rr re iw id ia ib nx 0 rw) := by
  have e1 : f_Pro_performs w g sp nx lt ex en iw 7 id ia ib ii is iu = (1, w, upd g (ix (id &&& 31)) ((g (ix (ia &&& 31))) * is), sp, nx, lt, ex, en) := rfl
  have e2 : f_Ref_execute 7 g sp w lt rr re iw id ia ib nx 0 rw = (upd g (ix id) ((g (ix ia)) * (f_Ref_signed16 iw)), sp, w, lt, rr, re, nx, 0, rw) := rfl
  rw [e1, e2, and31 hd, and31 ha, hs]
  exact ⟨rfl, rfl, rfl, rfl, rfl, rfl, Or.inl ⟨rfl, rfl⟩⟩
theorem op8 (hd : vp_in id 32) (ha : vp_in ia 32) (hb : vp_in ib 32) (hs : is = f_Ref_signed16 iw) (hu : iu = iw &&& 65535) : IRl ex (f_Pro_performs w g sp nx lt ex en iw 8 id ia ib ii is iu) (f_Ref_execute 8 g sp w lt rr re iw id ia ib nx 0 rw) := by
  have e1 : f_Pro_performs w g sp nx lt ex en iw 8 id ia ib ii is iu = (1, w, upd g (ix (id &&& 31)) (f_Ari_sumWithCarry ((g (ix (ia &&& 31))) ^^^ -1) is 1 sp).1, (f_Ari_sumWithCarry ((g (ix (ia &&& 31))) ^^^ -1) is 1 sp).2, nx, lt, ex, en) := rfl
  have e2 : f_Ref_execute 8 g sp w lt rr re iw id ia ib nx 0 rw = (upd g (ix id) (f_Ref_sum (f_Ref_signed16 iw) ((g (ix ia)) ^^^ -1) 1 sp).1, (f_Ref_sum (f_Ref_signed16 iw) ((g (ix ia)) ^^^ -1) 1 sp).2, w, lt, rr, re, nx, 0, rw) := rfl
  rw [e1, e2, and31 hd, and31 ha, hs, sum_comm]
  exact ⟨rfl, rfl, rfl, rfl, rfl, rfl, Or.inl ⟨rfl, rfl⟩⟩
theorem op12 (hd : vp_in id 32) (ha : vp_in ia 32) (hb : vp_in ib 32) (hs : is = f_Ref_signed16 iw) (hu : iu = iw &&& 65535) : IRl ex (f_Pro_performs w g sp nx lt ex en iw 12 id ia ib ii is iu) (f_Ref_execute 12 g sp w lt rr re iw id ia ib nx 0 rw) := by
  have e1 : f_Pro_performs w g sp nx lt ex en iw 12 id ia ib ii is iu = (1, w, upd g (ix (id &&& 31)) (f_Ari_sumWithCarry (g (ix (ia &&& 31))) is 0 sp).1, (f_Ari_sumWithCarry (g (ix (ia &&& 31))) is 0 sp).2, nx, lt, ex, en) := rfl
  have e2 : f_Ref_execute 12 g sp w lt rr re iw id ia ib nx 0 rw = (upd g (ix id) (f_Ref_sum (g (ix ia)) (f_Ref_signed16 iw) 0 sp).1, (f_Ref_sum (g (ix ia)) (f_Ref_signed16 iw) 0 sp).2, w, lt, rr, re, nx, 0, rw) := rfl
  rw [e1, e2, and31 hd, and31 ha, hs, sum_eq]
  exact ⟨rfl, rfl, rfl, rfl, rfl, rfl, Or.inl ⟨rfl, rfl⟩⟩
theorem op13 (hd : vp_in id 32) (ha : vp_in ia 32) (hb : vp_in ib 32) (hs : is = f_Ref_signed16 iw) (hu : iu = iw &&& 65535) : IRl ex (f_Pro_performs w g sp nx lt ex en iw 13 id ia ib ii is iu) (f_Ref_execute 13 g sp w lt rr re iw id ia ib nx 0 rw) := by
  have e1 : f_Pro_performs w g sp nx lt ex en iw 13 id ia ib ii is iu = (1, w, upd g (ix (id &&& 31)) (f_Ari_sumWithCarry (g (ix (ia &&& 31))) is 0 sp).1, f_Sta_keepOrder 0 (f_Ari_sumWithCarry (g (ix (ia &&& 31))) is 0 sp).1 (f_Ari_sumWithCarry (g (ix (ia &&& 31))) is 0 sp).2, nx, lt, ex, en) := rfl
  have e2 : f_Ref_execute 13 g sp w lt rr re iw id ia ib nx 0 rw = (upd g (ix id) (f_Ref_sum (g (ix ia)) (f_Ref_signed16 iw) 0 sp).1, f_Ref_noteResult ((upd g (ix id) (f_Ref_sum (g (ix ia)) (f_Ref_signed16 iw) 0 sp).1) (ix id)) (f_Ref_sum (g (ix ia)) (f_Ref_signed16 iw) 0 sp).2, w, lt, rr, re, nx, 0, rw) := rfl
  rw [e1, e2, and31 hd, and31 ha, hs, sum_eq, upd_at, note_eq]
  exact ⟨rfl, rfl, rfl, rfl, rfl, rfl, Or.inl ⟨rfl, rfl⟩⟩
theorem op14 (hd : vp_in id 32) (ha : vp_in ia 32) (hb : vp_in ib 32) (hs : is = f_Ref_signed16 iw) (hu : iu = iw &&& 65535) : IRl ex (f_Pro_performs w g sp nx lt ex en iw 14 id ia ib ii is iu) (f_Ref_execute 14 g sp w lt rr re iw id ia ib nx 0 rw) := by
  have e1 : f_Pro_performs w g sp nx lt ex en iw 14 id ia ib ii is iu = (1, w, upd g (ix (id &&& 31)) (f_Sta_registerOrZero ia g + is), sp, nx, lt, ex, en) := rfl
  have e2 : f_Ref_execute 14 g sp w lt rr re iw id ia ib nx 0 rw = (upd g (ix id) (f_Ref_a0 g ia + (f_Ref_signed16 iw)), sp, w, lt, rr, re, nx, 0, rw) := rfl
  rw [e1, e2, and31 hd, rz_eq ha, hs]
  exact ⟨rfl, rfl, rfl, rfl, rfl, rfl, Or.inl ⟨rfl, rfl⟩⟩
theorem op15 (hd : vp_in id 32) (ha : vp_in ia 32) (hb : vp_in ib 32) (hs : is = f_Ref_signed16 iw) (hu : iu = iw &&& 65535) : IRl ex (f_Pro_performs w g sp nx lt ex en iw 15 id ia ib ii is iu) (f_Ref_execute 15 g sp w lt rr re iw id ia ib nx 0 rw) := by
  have e1 : f_Pro_performs w g sp nx lt ex en iw 15 id ia ib ii is iu = (1, w, upd g (ix (id &&& 31)) (f_Sta_registerOrZero ia g + is * 65536), sp, nx, lt, ex, en) := rfl
  have e2 : f_Ref_execute 15 g sp w lt rr re iw id ia ib nx 0 rw = (upd g (ix id) (f_Ref_a0 g ia + (f_Ref_signed16 iw) * 65536), sp, w, lt, rr, re, nx, 0, rw) := rfl
  rw [e1, e2, and31 hd, rz_eq ha, hs]
  exact ⟨rfl, rfl, rfl, rfl, rfl, rfl, Or.inl ⟨rfl, rfl⟩⟩
theorem op10 (hd : vp_in id 32) (ha : vp_in ia 32) (hb : vp_in ib 32) (hs : is = f_Ref_signed16 iw) (hu : iu = iw &&& 65535) : IRl ex (f_Pro_performs w g sp nx lt ex en iw 10 id ia ib ii is iu) (f_Ref_execute 10 g sp w lt rr re iw id ia ib nx 0 rw) := by
  have e1 : f_Pro_performs w g sp nx lt ex en iw 10 id ia ib ii is iu = (1, w, g, f_Sta_keepOrder (shr id 2) (f_Int_compareUnsigned (g (ix (ia &&& 31))) iu) sp, nx, lt, ex, en) := rfl
  have e2 : f_Ref_execute 10 g sp w lt rr re iw id ia ib nx 0 rw = (g, f_Ref_compare (shr id 2) (f_Ref_unsigned (g (ix ia))) ((iw &&& 65535).toInt64) sp, w, lt, rr, re, nx, 0, rw) := rfl
  rw [e1, e2, and31 ha, ord_eq, uns_small (low16_nn iw), cmpU, hu]
  exact ⟨rfl, rfl, rfl, rfl, rfl, rfl, Or.inl ⟨rfl, rfl⟩⟩
theorem op11 (hd : vp_in id 32) (ha : vp_in ia 32) (hb : vp_in ib 32) (hs : is = f_Ref_signed16 iw) (hu : iu = iw &&& 65535) : IRl ex (f_Pro_performs w g sp nx lt ex en iw 11 id ia ib ii is iu) (f_Ref_execute 11 g sp w lt rr re iw id ia ib nx 0 rw) := by
  have e1 : f_Pro_performs w g sp nx lt ex en iw 11 id ia ib ii is iu = (1, w, g, f_Sta_keepOrder (shr id 2) (f_Int_compare (g (ix (ia &&& 31))) is) sp, nx, lt, ex, en) := rfl
  have e2 : f_Ref_execute 11 g sp w lt rr re iw id ia ib nx 0 rw = (g, f_Ref_compare (shr id 2) (g (ix ia)).toInt64 (f_Ref_signed16 iw).toInt64 sp, w, lt, rr, re, nx, 0, rw) := rfl
  rw [e1, e2, and31 ha, ord_eq, cmp_int, hs]
  exact ⟨rfl, rfl, rfl, rfl, rfl, rfl, Or.inl ⟨rfl, rfl⟩⟩
theorem op24 (hd : vp_in id 32) (ha : vp_in ia 32) (hb : vp_in ib 32) (hs : is = f_Ref_signed16 iw) (hu : iu = iw &&& 65535) : IRl ex (f_Pro_performs w g sp nx lt ex en iw 24 id ia ib ii is iu) (f_Ref_execute 24 g sp w lt rr re iw id ia ib nx 0 rw) := by
  have e1 : f_Pro_performs w g sp nx lt ex en iw 24 id ia ib ii is iu = (1, w, upd g (ix (ia &&& 31)) ((g (ix (id &&& 31))) ||| iu), sp, nx, lt, ex, en) := rfl
  have e2 : f_Ref_execute 24 g sp w lt rr re iw id ia ib nx 0 rw = (upd g (ix ia) ((g (ix id)) ||| (iw &&& 65535)), sp, w, lt, rr, re, nx, 0, rw) := rfl
  rw [e1, e2, and31 hd, and31 ha, hu]
  exact ⟨rfl, rfl, rfl, rfl, rfl, rfl, Or.inl ⟨rfl, rfl⟩⟩
theorem op25 (hd : vp_in id 32) (ha : vp_in ia 32) (hb : vp_in ib 32) (hs : is = f_Ref_signed16 iw) (hu : iu = iw &&& 65535) : IRl ex (f_Pro_performs w g sp nx lt ex en iw 25 id ia ib ii is iu) (f_Ref_execute 25 g sp w lt rr re iw id ia ib nx 0 rw) := by
  have e1 : f_Pro_performs w g sp nx lt ex en iw 25 id ia ib ii is iu = (1, w, upd g (ix (ia &&& 31)) ((g (ix (id &&& 31))) ||| (shl iu 16)), sp, nx, lt, ex, en) := rfl
  have e2 : f_Ref_execute 25 g sp w lt rr re iw id ia ib nx 0 rw = (upd g (ix ia) ((g (ix id)) ||| (shl (iw &&& 65535) 16)), sp, w, lt, rr, re, nx, 0, rw) := rfl
  rw [e1, e2, and31 hd, and31 ha, hu]
  exact ⟨rfl, rfl, rfl, rfl, rfl, rfl, Or.inl ⟨rfl, rfl⟩⟩
theorem op26 (hd : vp_in id 32) (ha : vp_in ia 32) (hb : vp_in ib 32) (hs : is = f_Ref_signed16 iw) (hu : iu = iw &&& 65535) : IRl ex (f_Pro_performs w g sp nx lt ex en iw 26 id ia ib ii is iu) (f_Ref_execute 26 g sp w lt rr re iw id ia ib nx 0 rw) := by
  have e1 : f_Pro_performs w g sp nx lt ex en iw 26 id ia ib ii is iu = (1, w, upd g (ix (ia &&& 31)) ((g (ix (id &&& 31))) ^^^ iu), sp, nx, lt, ex, en) := rfl
  have e2 : f_Ref_execute 26 g sp w lt rr re iw id ia ib nx 0 rw = (upd g (ix ia) ((g (ix id)) ^^^ (iw &&& 65535)), sp, w, lt, rr, re, nx, 0, rw) := rfl
  rw [e1, e2, and31 hd, and31 ha, hu]
  exact ⟨rfl, rfl, rfl, rfl, rfl, rfl, Or.inl ⟨rfl, rfl⟩⟩
theorem op27 (hd : vp_in id 32) (ha : vp_in ia 32) (hb : vp_in ib 32) (hs : is = f_Ref_signed16 iw) (hu : iu = iw &&& 65535) : IRl ex (f_Pro_performs w g sp nx lt ex en iw 27 id ia ib ii is iu) (f_Ref_execute 27 g sp w lt rr re iw id ia ib nx 0 rw) := by
  have e1 : f_Pro_performs w g sp nx lt ex en iw 27 id ia ib ii is iu = (1, w, upd g (ix (ia &&& 31)) ((g (ix (id &&& 31))) ^^^ (shl iu 16)), sp, nx, lt, ex, en) := rfl
  have e2 : f_Ref_execute 27 g sp w lt rr re iw id ia ib nx 0 rw = (upd g (ix ia) ((g (ix id)) ^^^ (shl (iw &&& 65535) 16)), sp, w, lt, rr, re, nx, 0, rw) := rfl
  rw [e1, e2, and31 hd, and31 ha, hu]
  exact ⟨rfl, rfl, rfl, rfl, rfl, rfl, Or.inl ⟨rfl, rfl⟩⟩
theorem op28 (hd : vp_in id 32) (ha : vp_in ia 32) (hb : vp_in ib 32) (hs : is = f_Ref_signed16 iw) (hu : iu = iw &&& 65535) : IRl ex (f_Pro_performs w g sp nx lt ex en iw 28 id ia ib ii is iu) (f_Ref_execute 28 g sp w lt rr re iw id ia ib nx 0 rw) := by
  have e1 : f_Pro_performs w g sp nx lt ex en iw 28 id ia ib ii is iu = (1, w, upd g (ix (ia &&& 31)) ((g (ix (id &&& 31))) &&& iu), f_Sta_keepOrder 0 ((g (ix (id &&& 31))) &&& iu) sp, nx, lt, ex, en) := rfl
  have e2 : f_Ref_execute 28 g sp w lt rr re iw id ia ib nx 0 rw = (upd g (ix ia) ((g (ix id)) &&& (iw &&& 65535)), f_Ref_noteResult ((upd g (ix ia) ((g (ix id)) &&& (iw &&& 65535))) (ix ia)) sp, w, lt, rr, re, nx, 0, rw) := rfl
  rw [e1, e2, and31 hd, and31 ha, hu, upd_at, note_eq]
  exact ⟨rfl, rfl, rfl, rfl, rfl, rfl, Or.inl ⟨rfl, rfl⟩⟩
theorem op29 (hd : vp_in id 32) (ha : vp_in ia 32) (hb : vp_in ib 32) (hs : is = f_Ref_signed16 iw) (hu : iu = iw &&& 65535) : IRl ex (f_Pro_performs w g sp nx lt ex en iw 29 id ia ib ii is iu) (f_Ref_execute 29 g sp w lt rr re iw id ia ib nx 0 rw) := by
  have e1 : f_Pro_performs w g sp nx lt ex en iw 29 id ia ib ii is iu = (1, w, upd g (ix (ia &&& 31)) ((g (ix (id &&& 31))) &&& (shl iu 16)), f_Sta_keepOrder 0 ((g (ix (id &&& 31))) &&& (shl iu 16)) sp, nx, lt, ex, en) := rfl
  have e2 : f_Ref_execute 29 g sp w lt rr re iw id ia ib nx 0 rw = (upd g (ix ia) ((g (ix id)) &&& (shl (iw &&& 65535) 16)), f_Ref_noteResult ((upd g (ix ia) ((g (ix id)) &&& (shl (iw &&& 65535) 16))) (ix ia)) sp, w, lt, rr, re, nx, 0, rw) := rfl
  rw [e1, e2, and31 hd, and31 ha, hu, upd_at, note_eq]
  exact ⟨rfl, rfl, rfl, rfl, rfl, rfl, Or.inl ⟨rfl, rfl⟩⟩
theorem op17 (hd : vp_in id 32) (ha : vp_in ia 32) (hb : vp_in ib 32) (hs : is = f_Ref_signed16 iw) (hu : iu = iw &&& 65535) : IRl ex (f_Pro_performs w g sp nx lt ex en iw 17 id ia ib ii is iu) (f_Ref_execute 17 g sp w lt rr re iw id ia ib nx 0 rw) := by
  exact ⟨rfl, rfl, rfl, rfl, rfl, rfl, Or.inr ⟨rfl, rfl⟩⟩
theorem op3 (hd : vp_in id 32) (ha : vp_in ia 32) (hb : vp_in ib 32) (hs : is = f_Ref_signed16 iw) (hu : iu = iw &&& 65535) : IRl ex (f_Pro_performs w g sp nx lt ex en iw 3 id ia ib ii is iu) (f_Ref_execute 3 g sp w lt rr re iw id ia ib nx 0 rw) := by
  have e1 : f_Pro_performs w g sp nx lt ex en iw 3 id ia ib ii is iu = (1, w, g, (f_Cmp_trap id (g (ix (ia &&& 31))) is sp nx lt ex).1, (f_Cmp_trap id (g (ix (ia &&& 31))) is sp nx lt ex).2.1, (f_Cmp_trap id (g (ix (ia &&& 31))) is sp nx lt ex).2.2.1, (f_Cmp_trap id (g (ix (ia &&& 31))) is sp nx lt ex).2.2.2, en) := rfl
  have e2 : f_Ref_execute 3 g sp w lt rr re iw id ia ib nx 0 rw = (g, (f_Ref_trap (f_Ref_signed16 iw) g sp lt id ia nx 0).1, w, (f_Ref_trap (f_Ref_signed16 iw) g sp lt id ia nx 0).2.1, rr, re, (f_Ref_trap (f_Ref_signed16 iw) g sp lt id ia nx 0).2.2.1, (f_Ref_trap (f_Ref_signed16 iw) g sp lt id ia nx 0).2.2.2, rw) := rfl
  rw [e1, e2, and31 ha, hs]
  rcases trap_XR (f_Ref_signed16 iw) g sp lt id ia nx 0 nx lt ex with ⟨a, b⟩ | ⟨n, c, a, b⟩
  · rw [a, b]; exact ⟨rfl, rfl, rfl, rfl, rfl, rfl, Or.inl ⟨rfl, rfl⟩⟩
  · rw [a, b]; exact ⟨rfl, rfl, rfl, rfl, rfl, rfl, Or.inr ⟨rfl, rfl⟩⟩
theorem op0 : IRu w g sp nx lt ex (f_Pro_performs w g sp nx lt ex en iw 0 id ia ib ii is iu) (f_Ref_execute 0 g sp w lt rr re iw id ia ib nx 0 rw) := ⟨rfl, rfl, rfl, rfl, rfl, rfl, rfl, rfl, rfl, rfl, rfl⟩
theorem op1 : IRu w g sp nx lt ex (f_Pro_performs w g sp nx lt ex en iw 1 id ia ib ii is iu) (f_Ref_execute 1 g sp w lt rr re iw id ia ib nx 0 rw) := ⟨rfl, rfl, rfl, rfl, rfl, rfl, rfl, rfl, rfl, rfl, rfl⟩
theorem op2 : IRu w g sp nx lt ex (f_Pro_performs w g sp nx lt ex en iw 2 id ia ib ii is iu) (f_Ref_execute 2 g sp w lt rr re iw id ia ib nx 0 rw) := ⟨rfl, rfl, rfl, rfl, rfl, rfl, rfl, rfl, rfl, rfl, rfl⟩
theorem op4 : IRu w g sp nx lt ex (f_Pro_performs w g sp nx lt ex en iw 4 id ia ib ii is iu) (f_Ref_execute 4 g sp w lt rr re iw id ia ib nx 0 rw) := ⟨rfl, rfl, rfl, rfl, rfl, rfl, rfl, rfl, rfl, rfl, rfl⟩
theorem op5 : IRu w g sp nx lt ex (f_Pro_performs w g sp nx lt ex en iw 5 id ia ib ii is iu) (f_Ref_execute 5 g sp w lt rr re iw id ia ib nx 0 rw) := ⟨rfl, rfl, rfl, rfl, rfl, rfl, rfl, rfl, rfl, rfl, rfl⟩
theorem op6 : IRu w g sp nx lt ex (f_Pro_performs w g sp nx lt ex en iw 6 id ia ib ii is iu) (f_Ref_execute 6 g sp w lt rr re iw id ia ib nx 0 rw) := ⟨rfl, rfl, rfl, rfl, rfl, rfl, rfl, rfl, rfl, rfl, rfl⟩
theorem op9 : IRu w g sp nx lt ex (f_Pro_performs w g sp nx lt ex en iw 9 id ia ib ii is iu) (f_Ref_execute 9 g sp w lt rr re iw id ia ib nx 0 rw) := ⟨rfl, rfl, rfl, rfl, rfl, rfl, rfl, rfl, rfl, rfl, rfl⟩
theorem op22 : IRu w g sp nx lt ex (f_Pro_performs w g sp nx lt ex en iw 22 id ia ib ii is iu) (f_Ref_execute 22 g sp w lt rr re iw id ia ib nx 0 rw) := ⟨rfl, rfl, rfl, rfl, rfl, rfl, rfl, rfl, rfl, rfl, rfl⟩
theorem op30 : IRu w g sp nx lt ex (f_Pro_performs w g sp nx lt ex en iw 30 id ia ib ii is iu) (f_Ref_execute 30 g sp w lt rr re iw id ia ib nx 0 rw) := ⟨rfl, rfl, rfl, rfl, rfl, rfl, rfl, rfl, rfl, rfl, rfl⟩
theorem op41 : IRu w g sp nx lt ex (f_Pro_performs w g sp nx lt ex en iw 41 id ia ib ii is iu) (f_Ref_execute 41 g sp w lt rr re iw id ia ib nx 0 rw) := ⟨rfl, rfl, rfl, rfl, rfl, rfl, rfl, rfl, rfl, rfl, rfl⟩
theorem op43 : IRu w g sp nx lt ex (f_Pro_performs w g sp nx lt ex en iw 43 id ia ib ii is iu) (f_Ref_execute 43 g sp w lt rr re iw id ia ib nx 0 rw) := ⟨rfl, rfl, rfl, rfl, rfl, rfl, rfl, rfl, rfl, rfl, rfl⟩
theorem op45 : IRu w g sp nx lt ex (f_Pro_performs w g sp nx lt ex en iw 45 id ia ib ii is iu) (f_Ref_execute 45 g sp w lt rr re iw id ia ib nx 0 rw) := ⟨rfl, rfl, rfl, rfl, rfl, rfl, rfl, rfl, rfl, rfl, rfl⟩
theorem op46 : IRu w g sp nx lt ex (f_Pro_performs w g sp nx lt ex en iw 46 id ia ib ii is iu) (f_Ref_execute 46 g sp w lt rr re iw id ia ib nx 0 rw) := ⟨rfl, rfl, rfl, rfl, rfl, rfl, rfl, rfl, rfl, rfl, rfl⟩
theorem op47 : IRu w g sp nx lt ex (f_Pro_performs w g sp nx lt ex en iw 47 id ia ib ii is iu) (f_Ref_execute 47 g sp w lt rr re iw id ia ib nx 0 rw) := ⟨rfl, rfl, rfl, rfl, rfl, rfl, rfl, rfl, rfl, rfl, rfl⟩
theorem op48 : IRu w g sp nx lt ex (f_Pro_performs w g sp nx lt ex en iw 48 id ia ib ii is iu) (f_Ref_execute 48 g sp w lt rr re iw id ia ib nx 0 rw) := ⟨rfl, rfl, rfl, rfl, rfl, rfl, rfl, rfl, rfl, rfl, rfl⟩
theorem op49 : IRu w g sp nx lt ex (f_Pro_performs w g sp nx lt ex en iw 49 id ia ib ii is iu) (f_Ref_execute 49 g sp w lt rr re iw id ia ib nx 0 rw) := ⟨rfl, rfl, rfl, rfl, rfl, rfl, rfl, rfl, rfl, rfl, rfl⟩
theorem op50 : IRu w g sp nx lt ex (f_Pro_performs w g sp nx lt ex en iw 50 id ia ib ii is iu) (f_Ref_execute 50 g sp w lt rr re iw id ia ib nx 0 rw) := ⟨rfl, rfl, rfl, rfl, rfl, rfl, rfl, rfl, rfl, rfl, rfl⟩
theorem op51 : IRu w g sp nx lt ex (f_Pro_performs w g sp nx lt ex en iw 51 id ia ib ii is iu) (f_Ref_execute 51 g sp w lt rr re iw id ia ib nx 0 rw) := ⟨rfl, rfl, rfl, rfl, rfl, rfl, rfl, rfl, rfl, rfl, rfl⟩
theorem op52 : IRu w g sp nx lt ex (f_Pro_performs w g sp nx lt ex en iw 52 id ia ib ii is iu) (f_Ref_execute 52 g sp w lt rr re iw id ia ib nx 0 rw) := ⟨rfl, rfl, rfl, rfl, rfl, rfl, rfl, rfl, rfl, rfl, rfl⟩
theorem op53 : IRu w g sp nx lt ex (f_Pro_performs w g sp nx lt ex en iw 53 id ia ib ii is iu) (f_Ref_execute 53 g sp w lt rr re iw id ia ib nx 0 rw) := ⟨rfl, rfl, rfl, rfl, rfl, rfl, rfl, rfl, rfl, rfl, rfl⟩
theorem op54 : IRu w g sp nx lt ex (f_Pro_performs w g sp nx lt ex en iw 54 id ia ib ii is iu) (f_Ref_execute 54 g sp w lt rr re iw id ia ib nx 0 rw) := ⟨rfl, rfl, rfl, rfl, rfl, rfl, rfl, rfl, rfl, rfl, rfl⟩
theorem op55 : IRu w g sp nx lt ex (f_Pro_performs w g sp nx lt ex en iw 55 id ia ib ii is iu) (f_Ref_execute 55 g sp w lt rr re iw id ia ib nx 0 rw) := ⟨rfl, rfl, rfl, rfl, rfl, rfl, rfl, rfl, rfl, rfl, rfl⟩
theorem op56 : IRu w g sp nx lt ex (f_Pro_performs w g sp nx lt ex en iw 56 id ia ib ii is iu) (f_Ref_execute 56 g sp w lt rr re iw id ia ib nx 0 rw) := ⟨rfl, rfl, rfl, rfl, rfl, rfl, rfl, rfl, rfl, rfl, rfl⟩
theorem op57 : IRu w g sp nx lt ex (f_Pro_performs w g sp nx lt ex en iw 57 id ia ib ii is iu) (f_Ref_execute 57 g sp w lt rr re iw id ia ib nx 0 rw) := ⟨rfl, rfl, rfl, rfl, rfl, rfl, rfl, rfl, rfl, rfl, rfl⟩
theorem op58 : IRu w g sp nx lt ex (f_Pro_performs w g sp nx lt ex en iw 58 id ia ib ii is iu) (f_Ref_execute 58 g sp w lt rr re iw id ia ib nx 0 rw) := ⟨rfl, rfl, rfl, rfl, rfl, rfl, rfl, rfl, rfl, rfl, rfl⟩
theorem op59 : IRu w g sp nx lt ex (f_Pro_performs w g sp nx lt ex en iw 59 id ia ib ii is iu) (f_Ref_execute 59 g sp w lt rr re iw id ia ib nx 0 rw) := ⟨rfl, rfl, rfl, rfl, rfl, rfl, rfl, rfl, rfl, rfl, rfl⟩
theorem op60 : IRu w g sp nx lt ex (f_Pro_performs w g sp nx lt ex en iw 60 id ia ib ii is iu) (f_Ref_execute 60 g sp w lt rr re iw id ia ib nx 0 rw) := ⟨rfl, rfl, rfl, rfl, rfl, rfl, rfl, rfl, rfl, rfl, rfl⟩
theorem op61 : IRu w g sp nx lt ex (f_Pro_performs w g sp nx lt ex en iw 61 id ia ib ii is iu) (f_Ref_execute 61 g sp w lt rr re iw id ia ib nx 0 rw) := ⟨rfl, rfl, rfl, rfl, rfl, rfl, rfl, rfl, rfl, rfl, rfl⟩
theorem op62 : IRu w g sp nx lt ex (f_Pro_performs w g sp nx lt ex en iw 62 id ia ib ii is iu) (f_Ref_execute 62 g sp w lt rr re iw id ia ib nx 0 rw) := ⟨rfl, rfl, rfl, rfl, rfl, rfl, rfl, rfl, rfl, rfl, rfl⟩
theorem op63 : IRu w g sp nx lt ex (f_Pro_performs w g sp nx lt ex en iw 63 id ia ib ii is iu) (f_Ref_execute 63 g sp w lt rr re iw id ia ib nx 0 rw) := ⟨rfl, rfl, rfl, rfl, rfl, rfl, rfl, rfl, rfl, rfl, rfl⟩
end OPS
