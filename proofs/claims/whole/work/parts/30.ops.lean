/-- what one instruction does, on both sides: a listed one -/
def IRl (ex : Int32) (z : Int32 × (Nat → Int32) × (Nat → Int32) × (Nat → Int32) × Int32 × Int32 × Int32 × Int32) (y : (Nat → Int32) × (Nat → Int32) × (Nat → Int32) × Int32 × Int32 × Int32 × Int32 × Int32 × Int32) : Prop :=
  z.1 = 1 ∧ y.1 = z.2.2.1 ∧ y.2.1 = z.2.2.2.1 ∧ y.2.2.1 = z.2.1 ∧ y.2.2.2.1 = z.2.2.2.2.2.1 ∧ y.2.2.2.2.2.2.1 = z.2.2.2.2.1 ∧ ((y.2.2.2.2.2.2.2.1 = 0 ∧ z.2.2.2.2.2.2.1 = ex) ∨ (y.2.2.2.2.2.2.2.1 = 1 ∧ z.2.2.2.2.2.2.1 = ex + 1))
/-- one that is not listed: the class changes nothing yet, the reference has made its exception -/
def IRu (w g sp : Nat → Int32) (nx lt ex : Int32) (z : Int32 × (Nat → Int32) × (Nat → Int32) × (Nat → Int32) × Int32 × Int32 × Int32 × Int32) (y : (Nat → Int32) × (Nat → Int32) × (Nat → Int32) × Int32 × Int32 × Int32 × Int32 × Int32 × Int32) : Prop :=
  z.1 = 0 ∧ z.2.1 = w ∧ z.2.2.1 = g ∧ z.2.2.2.1 = sp ∧ z.2.2.2.2.2.2.1 = ex ∧ y.1 = g ∧ y.2.1 = (f_Sta_raise 1792 524288 sp ex).1 ∧ y.2.2.1 = w ∧ y.2.2.2.1 = 1792 ∧ y.2.2.2.2.2.2.1 = 1792 ∧ y.2.2.2.2.2.2.2.1 = 1
section OPS
variable (w g sp : Nat → Int32) (nx lt ex en iw id ia ib ii is iu rr re rw : Int32)
theorem op7 (hd : vp_in id 32) (ha : vp_in ia 32) (hs : is = f_Ref_signed16 iw) : IRl ex (f_Pro_performs w g sp nx lt ex en iw 7 id ia ib ii is iu) (f_Ref_execute 7 g sp w lt rr re iw id ia ib nx 0 rw) := by
  have e1 : f_Pro_performs w g sp nx lt ex en iw 7 id ia ib ii is iu = (1, w, upd g (ix (id &&& 31)) (g (ix (ia &&& 31)) * is), sp, nx, lt, ex, en) := rfl
  have e2 : f_Ref_execute 7 g sp w lt rr re iw id ia ib nx 0 rw = (upd g (ix id) (g (ix ia) * f_Ref_signed16 iw), sp, w, lt, rr, re, nx, 0, rw) := rfl
  rw [e1, e2, and31 hd, and31 ha, hs]
  exact ⟨rfl, rfl, rfl, rfl, rfl, rfl, Or.inl ⟨rfl, rfl⟩⟩
theorem op14 (hd : vp_in id 32) (ha : vp_in ia 32) (hs : is = f_Ref_signed16 iw) : IRl ex (f_Pro_performs w g sp nx lt ex en iw 14 id ia ib ii is iu) (f_Ref_execute 14 g sp w lt rr re iw id ia ib nx 0 rw) := by
  have e1 : f_Pro_performs w g sp nx lt ex en iw 14 id ia ib ii is iu = (1, w, upd g (ix (id &&& 31)) (f_Sta_registerOrZero ia g + is), sp, nx, lt, ex, en) := rfl
  have e2 : f_Ref_execute 14 g sp w lt rr re iw id ia ib nx 0 rw = (upd g (ix id) (f_Ref_a0 g ia + f_Ref_signed16 iw), sp, w, lt, rr, re, nx, 0, rw) := rfl
  have e3 : f_Sta_registerOrZero ia g = f_Ref_a0 g ia := by
    unfold f_Sta_registerOrZero f_Ref_a0 f_Sta_register
    rw [and31 ha]
  rw [e1, e2, and31 hd, e3, hs]
  exact ⟨rfl, rfl, rfl, rfl, rfl, rfl, Or.inl ⟨rfl, rfl⟩⟩
theorem op1 : IRu w g sp nx lt ex (f_Pro_performs w g sp nx lt ex en iw 1 id ia ib ii is iu) (f_Ref_execute 1 g sp w lt rr re iw id ia ib nx 0 rw) := by
  exact ⟨rfl, rfl, rfl, rfl, rfl, rfl, rfl, rfl, rfl, rfl, rfl⟩
end OPS
