theorem l3 : ∀ L, L < 1537 → (Int32.ofNat L - 3).toInt = (L : Int) - 3 := by decide +kernel
set_option maxHeartbeats 4000000 in
set_option maxRecDepth 100000 in
theorem law_loop {p : Program} {e : Env} {s : State} {m : MethodId} {below : List Frame} {meth : Method} {c : Code} (l : Launch) {b L : Nat} {xs : Nat → Int32} (hL : L ≤ 1536) (C0 : lw_At p s m meth c b L xs) {D : va_G} {aP aM aW aS aG aX aQ aI aC aR aL aB aK aZ aT bG bS bM : Nat} {cW cG cX dG dS dM : ClassId} (hK : va_K D kCl [(cW, .int), (cG, .int), (cX, .int), (dG, .int), (dS, .int), (dM, .int)] s) :
    ∀ (n i : Nat) (x3 : Int32), i ≤ L → L + 1 ≤ i + n → x3 = nI i → ∀ (w g sp : Nat → Int32) (nx lt sm ex en iw io id ia ib ii is iu rr re rc rd ra rb rn rf rw : Int32) (H : Heap) (locs : List Loc), va_P D kCl (lwW aP aM aW aS aG aX aQ aI aC aR aL aB aK aZ aT bG bS bM cW cG cX dG dS dM w g sp nx lt sm ex en iw io id ia ib ii is iu rr re rc rd ra rb rn rf rw) H → va_D (fun q : Nat => s.heap.size ≤ q) (lwW aP aM aW aS aG aX aQ aI aC aR aL aB aK aZ aT bG bS bM cW cG cX dG dS dM w g sp nx lt sm ex en iw io id ia ib ii is iu rr re rc rd ra rb rn rf rw) → va_S (fun q : Nat => s.heap.size ≤ q) s.heap H locs → ∀ (ls : Array Slot), lv_has ls 4 [(0, .ref b), (1, .ref aP), (2, .ref aT), (3, .int x3)] → W p l e room_1 s m #[Value.ref b] below meth c H locs 18 32994 (lw_Z below #[Value.ref b] s) (F0 m 18 ls []) := by
  have C1 := C0
  obtain ⟨hx, hb, hr, hml, hown, hts, hX, hbl, hlocks, hgv⟩ := C1
  have hbA : ¬ (fun q : Nat => s.heap.size ≤ q) b := Nat.not_le.mpr hbl
  intro n
  induction n with
  | zero =>
    intro i x3 h1 h2
    exact absurd h2 (by omega)
  | succ n ih =>
    intro i x3 hi hin ex3 w g sp nx lt sm ex en iw io id ia ib ii is iu rr re rc rd ra rb rn rf rw H locs hP hD hS ls hl
    refine lv_iload_n hx hb d_law_18 rfl (lv_at hl 3 rfl) ?_
    refine lv_aload_n hx hb d_law_19 rfl (lv_at hl 0 rfl) ?_
    refine va_slen hx hb hX hbl hbA hS d_law_20 ?_
    refine lv_iconst (v := 3) hx hb d_law_21 (by decide) ?_
    refine lv_isub hx hb d_law_22 ?_
    refine lv_icmp_gt (tgt := 344) hx hb d_law_23 (by decide) (fun c9 => ?_) (fun c9 => ?_)
    · refine lv_iconst (v := 1) hx hb d_law_344 (by decide) ?_
      refine va_forget (fun q hq => hS.2.2 q hq) ?_
      exact lw_ret hx hb hr hlocks d_law_345
    · have hlt : i + 3 ≤ L := by
        rw [ex3, Int32.lt_iff_toInt_lt, l3 L (by omega), nI_toInt (by omega)] at c9
        omega
      have a1 : x3 + 1 = nI (i + 1) := by rw [ex3]; exact (Int32.ofNat_add i 1).symm
      have a2 : x3 + 2 = nI (i + 2) := by rw [ex3]; exact (Int32.ofNat_add i 2).symm
      have a3 : x3 + 3 = nI (i + 3) := by rw [ex3]; exact (Int32.ofNat_add i 3).symm
      have h0 : vp_in x3 L := by rw [ex3]; exact vp_in_nI (by omega) (by omega)
      have h1 : vp_in (x3 + 1) L := by rw [a1]; exact vp_in_nI (by omega) (by omega)
      have h2 : vp_in (x3 + 2) L := by rw [a2]; exact vp_in_nI (by omega) (by omega)
      refine lv_aload_n hx hb d_law_26 rfl (lv_at hl 0 rfl) ?_
      refine lv_iload_n hx hb d_law_27 rfl (lv_at hl 3 rfl) ?_
      refine va_sld hx hb hX hbl hbA hS h0 d_law_28 ?_
      refine lv_bipush (v := 15) hx hb d_law_29 (by decide) ?_
      refine lv_iand hx hb d_law_31 ?_
      have kk : ∀ (w g sp : Nat → Int32) (nx lt sm ex en iw io id ia ib ii is iu rr re rc rd ra rb rn rf rw : Int32) (H1 : Heap) (locs1 : List Loc), va_P D kCl (lwW aP aM aW aS aG aX aQ aI aC aR aL aB aK aZ aT bG bS bM cW cG cX dG dS dM w g sp nx lt sm ex en iw io id ia ib ii is iu rr re rc rd ra rb rn rf rw) H1 → va_D (fun q : Nat => s.heap.size ≤ q) (lwW aP aM aW aS aG aX aQ aI aC aR aL aB aK aZ aT bG bS bM cW cG cX dG dS dM w g sp nx lt sm ex en iw io id ia ib ii is iu rr re rc rd ra rb rn rf rw) → va_S (fun q : Nat => s.heap.size ≤ q) s.heap H1 locs1 → W p l e room_1 s m #[Value.ref b] below meth c H1 locs1 18 32994 (lw_Z below #[Value.ref b] s) (F0 m 338 ls []) := by
        intro w g sp nx lt sm ex en iw io id ia ib ii is iu rr re rc rd ra rb rn rf rw H locs hP hD hS
        refine lv_iinc (v := x3 + 3) (lv' := [(3, .int (x3 + 3)), (0, .ref b), (1, .ref aP), (2, .ref aT)]) hx hb d_law_338 hl (k := 3) rfl rfl (by decide) rfl (fun ls hl => ?_)
        refine lv_goto (tgt := 18) hx hb d_law_341 (by decide) ?_
        exact ih (i + 3) (x3 + 3) hlt (by omega) a3 w g sp nx lt sm ex en iw io id ia ib ii is iu rr re rc rd ra rb rn rf rw H locs hP hD hS ls (lv_sub hl [1, 2, 3, 0] rfl)
      obtain ⟨q, hq, eq⟩ := pk_andE (xs x3.toNatClampNeg) (m := 15) 4 (by decide)
      rw [eq]
      have hq2 : q = 0 ∨ q = 1 ∨ q = 2 ∨ q = 3 ∨ q = 4 ∨ q = 5 ∨ q = 6 ∨ q = 7 ∨ q = 8 ∨ q = 9 ∨ q = 10 ∨ q = 11 ∨ q = 12 ∨ q = 13 ∨ q = 14 ∨ q = 15 := by omega
      rcases hq2 with rfl | rfl | rfl | rfl | rfl | rfl | rfl | rfl | rfl | rfl | rfl | rfl | rfl | rfl | rfl | rfl
      · refine k_table (x := nI 0) (off := 56) (tgt := 88) hx hb d_law_32 (by decide) (by decide) ?_
        exact law_write l C0 hK x3 h1 h2 w g sp nx lt sm ex en iw io id ia ib ii is iu rr re rc rd ra rb rn rf rw H locs hP hD hS ls hl kk
      · refine k_table (x := nI 1) (off := 89) (tgt := 121) hx hb d_law_32 (by decide) (by decide) ?_
        exact law_word l C0 hK x3 h1 h2 w g sp nx lt sm ex en iw io id ia ib ii is iu rr re rc rd ra rb rn rf rw H locs hP hD hS ls hl kk
      · refine k_table (x := nI 2) (off := 112) (tgt := 144) hx hb d_law_32 (by decide) (by decide) ?_
        exact law_put l C0 hK x3 h1 h2 w g sp nx lt sm ex en iw io id ia ib ii is iu rr re rc rd ra rb rn rf rw H locs hP hD hS ls hl kk
      · refine k_table (x := nI 3) (off := 145) (tgt := 177) hx hb d_law_32 (by decide) (by decide) ?_
        exact law_general l C0 hK x3 h1 h2 w g sp nx lt sm ex en iw io id ia ib ii is iu rr re rc rd ra rb rn rf rw H locs hP hD hS ls hl kk
      · refine k_table (x := nI 4) (off := 168) (tgt := 200) hx hb d_law_32 (by decide) (by decide) ?_
        exact law_set l C0 hK x3 h1 h2 w g sp nx lt sm ex en iw io id ia ib ii is iu rr re rc rd ra rb rn rf rw H locs hP hD hS ls hl kk
      · refine k_table (x := nI 5) (off := 201) (tgt := 233) hx hb d_law_32 (by decide) (by decide) ?_
        exact law_special l C0 hK x3 h1 h2 w g sp nx lt sm ex en iw io id ia ib ii is iu rr re rc rd ra rb rn rf rw H locs hP hD hS ls hl kk
      · refine k_table (x := nI 6) (off := 224) (tgt := 256) hx hb d_law_32 (by decide) (by decide) ?_
        exact law_step l C0 hK x3 h1 h2 w g sp nx lt sm ex en iw io id ia ib ii is iu rr re rc rd ra rb rn rf rw H locs hP hD hS ls hl kk
      · refine k_table (x := nI 7) (off := 247) (tgt := 279) hx hb d_law_32 (by decide) (by decide) ?_
        exact law_translate l C0 hK x3 h1 h2 w g sp nx lt sm ex en iw io id ia ib ii is iu rr re rc rd ra rb rn rf rw H locs hP hD hS ls hl kk
      · refine k_table (x := nI 8) (off := 280) (tgt := 312) hx hb d_law_32 (by decide) (by decide) ?_
        exact law_vector l C0 hK x3 h1 h2 w g sp nx lt sm ex en iw io id ia ib ii is iu rr re rc rd ra rb rn rf rw H locs hP hD hS ls hl kk
      · refine k_table (x := nI 9) (off := 293) (tgt := 325) hx hb d_law_32 (by decide) (by decide) ?_
        exact law_steps l C0 hK x3 h1 h2 w g sp nx lt sm ex en iw io id ia ib ii is iu rr re rc rd ra rb rn rf rw H locs hP hD hS ls hl kk
      · refine k_table (x := nI 10) (off := 306) (tgt := 338) hx hb d_law_32 (by decide) (by decide) ?_
        exact kk w g sp nx lt sm ex en iw io id ia ib ii is iu rr re rc rd ra rb rn rf rw H locs hP hD hS
      · refine k_table (x := nI 11) (off := 306) (tgt := 338) hx hb d_law_32 (by decide) (by decide) ?_
        exact kk w g sp nx lt sm ex en iw io id ia ib ii is iu rr re rc rd ra rb rn rf rw H locs hP hD hS
      · refine k_table (x := nI 12) (off := 306) (tgt := 338) hx hb d_law_32 (by decide) (by decide) ?_
        exact kk w g sp nx lt sm ex en iw io id ia ib ii is iu rr re rc rd ra rb rn rf rw H locs hP hD hS
      · refine k_table (x := nI 13) (off := 306) (tgt := 338) hx hb d_law_32 (by decide) (by decide) ?_
        exact kk w g sp nx lt sm ex en iw io id ia ib ii is iu rr re rc rd ra rb rn rf rw H locs hP hD hS
      · refine k_table (x := nI 14) (off := 306) (tgt := 338) hx hb d_law_32 (by decide) (by decide) ?_
        exact kk w g sp nx lt sm ex en iw io id ia ib ii is iu rr re rc rd ra rb rn rf rw H locs hP hD hS
      · refine k_table (x := nI 15) (off := 306) (tgt := 338) hx hb d_law_32 (by decide) (by decide) ?_
        exact kk w g sp nx lt sm ex en iw io id ia ib ii is iu rr re rc rd ra rb rn rf rw H locs hP hD hS
set_option maxHeartbeats 4000000 in
set_option maxRecDepth 100000 in
theorem lw_classes {b : Nat} {s : State} (hB : ∀ w ∈ kBw, w.before #[Value.ref b] s = true) : ∃ D : va_G, va_K D kCl [] s := by
  obtain ⟨c0, i0, h0⟩ := u_known (C := "MappedProcessor$Accesses") (T := T_Acc) (N := 3) (n := 3) hB iw_Acc (hB _ zl_194)
  obtain ⟨c1, i1, h1⟩ := u_known (C := "MappedProcessor$Arithmetic") (T := T_Ari) (N := 1) (n := 1) hB iw_Ari (hB _ zl_154)
  obtain ⟨c2, i2, h2⟩ := u_known (C := "MappedProcessor$Branches") (T := T_Bra) (N := 1) (n := 1) hB iw_Bra (hB _ zl_174)
  obtain ⟨c3, i3, h3⟩ := u_known (C := "MappedProcessor$Comparisons") (T := T_Cmp) (N := 1) (n := 1) hB iw_Cmp (hB _ zl_144)
  obtain ⟨c4, i4, h4⟩ := u_known (C := "MappedProcessor$Control") (T := T_Ctl) (N := 1) (n := 1) hB iw_Ctl (hB _ zl_184)
  obtain ⟨c5, i5, h5⟩ := u_known (C := "MappedProcessor$Instruction") (T := T_Ins) (N := 8) (n := 8) hB iw_Ins (hB _ zl_75)
  obtain ⟨c6, i6, h6⟩ := u_known (C := "MappedProcessor$Logic") (T := T_Log) (N := 1) (n := 1) hB iw_Log (hB _ zl_164)
  obtain ⟨c7, i7, h7⟩ := u_known (C := "MappedProcessor$Mapper") (T := T_Map) (N := 3) (n := 3) hB iw_Map (hB _ zl_59)
  obtain ⟨c8, i8, h8⟩ := u_known (C := "MappedProcessor$Memory") (T := T_Mem) (N := 1) (n := 1) hB iw_Mem (hB _ zl_23)
  obtain ⟨c9, i9, h9⟩ := u_known (C := "MappedProcessor$State") (T := T_Sta) (N := 6) (n := 6) hB iw_Sta (hB _ zl_34)
  obtain ⟨c10, i10, h10⟩ := u_known (C := "MappedProcessor") (T := T_Pro) (N := 10) (n := 10) hB iw_Pro (hB _ zl_15)
  obtain ⟨c11, i11, h11⟩ := u_known (C := "MappedProcessorModel") (T := T_Ref) (N := 14) (n := 14) hB iw_Ref (hB _ zl_638)
  refine ⟨(fun k => [c0, c1, c2, c3, c4, c5, c6, c7, c8, c9, c10, c11].getD k c0, fun k => [i0, i1, i2, i3, i4, i5, i6, i7, i8, i9, i10, i11].getD k i0), ?_, fun k q h => by simp at h⟩
  intro k q hq
  match k, hq with
  | 0, hq => cases hq; exact h0
  | 1, hq => cases hq; exact h1
  | 2, hq => cases hq; exact h2
  | 3, hq => cases hq; exact h3
  | 4, hq => cases hq; exact h4
  | 5, hq => cases hq; exact h5
  | 6, hq => cases hq; exact h6
  | 7, hq => cases hq; exact h7
  | 8, hq => cases hq; exact h8
  | 9, hq => cases hq; exact h9
  | 10, hq => cases hq; exact h10
  | 11, hq => cases hq; exact h11
  | k + 12, hq => simp [kCl] at hq
set_option maxHeartbeats 4000000 in
set_option maxRecDepth 100000 in
theorem whole_start {p : Program} {e : Env} {s : State} {m : MethodId} {below : List Frame} {meth : Method} {c : Code} (l : Launch) {b L : Nat} {xs : Nat → Int32} (hL : L ≤ 1536) (C0 : lw_At p s m meth c b L xs) : W p l e room_1 s m #[Value.ref b] below meth c s.heap [] 0 0 (lw_Z below #[Value.ref b] s) (entryFrame m ([Value.ref b] : List Value).toArray 4) := by
  have C1 := C0
  obtain ⟨hx, hb, hr, hml, hown, hts, hX, hbl, hlocks, hgv⟩ := C1
  have hA : ∀ q : Nat, s.heap.size ≤ q → (fun q : Nat => s.heap.size ≤ q) q := fun _ h => h
  have hbA : ¬ (fun q : Nat => s.heap.size ≤ q) b := Nat.not_le.mpr hbl
  have hB := lw_kB hts
  have hN := lw_kN hts
  have hown : s.vm.findClass "MappedProcessorLaw" = some m.cls := hown
  obtain ⟨D, hK⟩ := lw_classes hB
  have hS : va_S (fun q : Nat => s.heap.size ≤ q) s.heap s.heap [] := va_S.rf
  have hP : va_P D kCl [] s.heap := fun k q h => by simp at h
  have hD : va_D (fun q : Nat => s.heap.size ≤ q) [] := ⟨fun i j p q h => by simp at h, fun k q h => by simp at h⟩
  have hl := lv_entry ([.ref b]) (n := 4) (Nat.le_of_ble_eq_true rfl)
  rw [lg_entry_eq]
  generalize (lg_sl ([.ref b]) ++ List.replicate (4 - (lg_sl ([.ref b])).length) Slot.unset).toArray = ls at hl ⊢
  have hl : lv_has ls 4 [(0, .ref b)] := hl
  refine va_new (ci := 10) (fs := [.null, .null, .null, .null, .null, .null, .null, .null, .null, .null]) (C := "MappedProcessor") (T := T_Pro) (N := 10) hx hb hB iw_Pro ty_Pro ty_Pro_ok hown (hB _ zl_14) (hB _ zl_15) (hB _ zl_1) hK hP hD hS hA rfl (fun j hj => by rcases (show j = 0 ∨ j = 1 ∨ j = 2 ∨ j = 3 ∨ j = 4 ∨ j = 5 ∨ j = 6 ∨ j = 7 ∨ j = 8 ∨ j = 9 by omega) with rfl | rfl | rfl | rfl | rfl | rfl | rfl | rfl | rfl | rfl <;> rfl) (Nat.le_of_ble_eq_true rfl) (Nat.le_of_ble_eq_true rfl) d_law_0 (fun aP H hP hD hS => ?_)
  have hP : va_P D kCl [(aP, .inr (10, [.null, .null, .null, .null, .null, .null, .null, .null, .null, .null]))] H := hP
  have hD : va_D (fun q : Nat => s.heap.size ≤ q) [(aP, .inr (10, [.null, .null, .null, .null, .null, .null, .null, .null, .null, .null]))] := hD
  refine W.widen (k := 1) (n := 10) (by decide) (by decide) ?_
  refine lv_dup hx hb d_law_3 rfl ?_
  refine k_cI (As := []) (b := aP) (rest := [.ref aP]) (wr := []) (wc := [(aP, .inr (10, [.null, .null, .null, .null, .null, .null, .null, .null, .null, .null]))]) ⟨hx, hb, hml, hown, hB⟩ (c_Pro_init l D aP) yl_Pro_init zl_16 hK hN hP hD hS hA [] [0] [] rfl rfl rfl rfl rfl hl.1 rfl (Nat.le_of_ble_eq_true rfl) ⟨Nat.le_of_ble_eq_true rfl, Nat.le_of_ble_eq_true rfl⟩ d_law_4 ⟨Nat.le_of_ble_eq_true rfl, Nat.le_of_ble_eq_true rfl⟩ (fun u H locs hK hP hD hS => ?_)
  obtain ⟨aM, aW, aS, aG, aX, aQ, aI, aC, aR, aL, aB, aK, aZ, cW, cG, cX⟩ := u
  have hK : va_K D kCl [(cW, .int), (cG, .int), (cX, .int)] s := hK
  have hP : va_P D kCl [(aP, .inr (10, [.ref aM, .ref aS, .ref aQ, .ref aI, .ref aC, .ref aR, .ref aL, .ref aB, .ref aK, .ref aZ])), (aM, .inr (8, [.ref aW])), (aW, .inl (cW, 16384, .inl (fun _ => 0))), (aS, .inr (9, [.ref aG, .ref aX, .int 0, .int 0, .int 0, .int 0])), (aG, .inl (cG, 32, .inl (fun _ => 0))), (aX, .inl (cX, 64, .inl (fun _ => 0))), (aQ, .inr (7, [.ref aM, .ref aS, .int (-1)])), (aI, .inr (5, [.int 0, .int 0, .int 0, .int 0, .int 0, .int 0, .int 0, .int 0])), (aC, .inr (3, [.ref aS])), (aR, .inr (1, [.ref aS])), (aL, .inr (6, [.ref aS])), (aB, .inr (2, [.ref aS])), (aK, .inr (4, [.ref aS])), (aZ, .inr (0, [.ref aM, .ref aS, .ref aQ]))] H := hP
  have hD : va_D (fun q : Nat => s.heap.size ≤ q) [(aP, .inr (10, [.ref aM, .ref aS, .ref aQ, .ref aI, .ref aC, .ref aR, .ref aL, .ref aB, .ref aK, .ref aZ])), (aM, .inr (8, [.ref aW])), (aW, .inl (cW, 16384, .inl (fun _ => 0))), (aS, .inr (9, [.ref aG, .ref aX, .int 0, .int 0, .int 0, .int 0])), (aG, .inl (cG, 32, .inl (fun _ => 0))), (aX, .inl (cX, 64, .inl (fun _ => 0))), (aQ, .inr (7, [.ref aM, .ref aS, .int (-1)])), (aI, .inr (5, [.int 0, .int 0, .int 0, .int 0, .int 0, .int 0, .int 0, .int 0])), (aC, .inr (3, [.ref aS])), (aR, .inr (1, [.ref aS])), (aL, .inr (6, [.ref aS])), (aB, .inr (2, [.ref aS])), (aK, .inr (4, [.ref aS])), (aZ, .inr (0, [.ref aM, .ref aS, .ref aQ]))] := hD
  refine W.widen (k := 14) (n := 16516) (by decide) (by decide) ?_
  refine lv_astore_n (lv' := [(1, .ref aP), (0, .ref b)]) hx hb d_law_7 rfl hl (by decide) rfl (fun ls hl => ?_)
  refine va_new (ci := 11) (fs := [.null, .null, .null, .int 0, .int 0, .int 0, .int 0, .int 0, .int 0, .int 0, .int 0, .int 0, .int 0, .int 0]) (C := "MappedProcessorModel") (T := T_Ref) (N := 14) hx hb hB iw_Ref ty_Ref ty_Ref_ok hown (hB _ zl_637) (hB _ zl_638) (hB _ zl_12) hK hP hD hS hA rfl (fun j hj => by rcases (show j = 0 ∨ j = 1 ∨ j = 2 ∨ j = 3 ∨ j = 4 ∨ j = 5 ∨ j = 6 ∨ j = 7 ∨ j = 8 ∨ j = 9 ∨ j = 10 ∨ j = 11 ∨ j = 12 ∨ j = 13 by omega) with rfl | rfl | rfl | rfl | rfl | rfl | rfl | rfl | rfl | rfl | rfl | rfl | rfl | rfl <;> rfl) (Nat.le_of_ble_eq_true rfl) (Nat.le_of_ble_eq_true rfl) d_law_8 (fun aT H hP hD hS => ?_)
  have hP : va_P D kCl [(aP, .inr (10, [.ref aM, .ref aS, .ref aQ, .ref aI, .ref aC, .ref aR, .ref aL, .ref aB, .ref aK, .ref aZ])), (aM, .inr (8, [.ref aW])), (aW, .inl (cW, 16384, .inl (fun _ => 0))), (aS, .inr (9, [.ref aG, .ref aX, .int 0, .int 0, .int 0, .int 0])), (aG, .inl (cG, 32, .inl (fun _ => 0))), (aX, .inl (cX, 64, .inl (fun _ => 0))), (aQ, .inr (7, [.ref aM, .ref aS, .int (-1)])), (aI, .inr (5, [.int 0, .int 0, .int 0, .int 0, .int 0, .int 0, .int 0, .int 0])), (aC, .inr (3, [.ref aS])), (aR, .inr (1, [.ref aS])), (aL, .inr (6, [.ref aS])), (aB, .inr (2, [.ref aS])), (aK, .inr (4, [.ref aS])), (aZ, .inr (0, [.ref aM, .ref aS, .ref aQ])), (aT, .inr (11, [.null, .null, .null, .int 0, .int 0, .int 0, .int 0, .int 0, .int 0, .int 0, .int 0, .int 0, .int 0, .int 0]))] H := hP
  have hD : va_D (fun q : Nat => s.heap.size ≤ q) [(aP, .inr (10, [.ref aM, .ref aS, .ref aQ, .ref aI, .ref aC, .ref aR, .ref aL, .ref aB, .ref aK, .ref aZ])), (aM, .inr (8, [.ref aW])), (aW, .inl (cW, 16384, .inl (fun _ => 0))), (aS, .inr (9, [.ref aG, .ref aX, .int 0, .int 0, .int 0, .int 0])), (aG, .inl (cG, 32, .inl (fun _ => 0))), (aX, .inl (cX, 64, .inl (fun _ => 0))), (aQ, .inr (7, [.ref aM, .ref aS, .int (-1)])), (aI, .inr (5, [.int 0, .int 0, .int 0, .int 0, .int 0, .int 0, .int 0, .int 0])), (aC, .inr (3, [.ref aS])), (aR, .inr (1, [.ref aS])), (aL, .inr (6, [.ref aS])), (aB, .inr (2, [.ref aS])), (aK, .inr (4, [.ref aS])), (aZ, .inr (0, [.ref aM, .ref aS, .ref aQ])), (aT, .inr (11, [.null, .null, .null, .int 0, .int 0, .int 0, .int 0, .int 0, .int 0, .int 0, .int 0, .int 0, .int 0, .int 0]))] := hD
  refine W.widen (k := 15) (n := 16530) (by decide) (by decide) ?_
  refine lv_dup hx hb d_law_11 rfl ?_
  refine k_cI (As := []) (b := aT) (rest := [.ref aT]) (wr := [(aP, .inr (10, [.ref aM, .ref aS, .ref aQ, .ref aI, .ref aC, .ref aR, .ref aL, .ref aB, .ref aK, .ref aZ])), (aM, .inr (8, [.ref aW])), (aW, .inl (cW, 16384, .inl (fun _ => 0))), (aS, .inr (9, [.ref aG, .ref aX, .int 0, .int 0, .int 0, .int 0])), (aG, .inl (cG, 32, .inl (fun _ => 0))), (aX, .inl (cX, 64, .inl (fun _ => 0))), (aQ, .inr (7, [.ref aM, .ref aS, .int (-1)])), (aI, .inr (5, [.int 0, .int 0, .int 0, .int 0, .int 0, .int 0, .int 0, .int 0])), (aC, .inr (3, [.ref aS])), (aR, .inr (1, [.ref aS])), (aL, .inr (6, [.ref aS])), (aB, .inr (2, [.ref aS])), (aK, .inr (4, [.ref aS])), (aZ, .inr (0, [.ref aM, .ref aS, .ref aQ]))]) (wc := [(aT, .inr (11, [.null, .null, .null, .int 0, .int 0, .int 0, .int 0, .int 0, .int 0, .int 0, .int 0, .int 0, .int 0, .int 0]))]) ⟨hx, hb, hml, hown, hB⟩ (c_Ref_init l D aT) yl_Ref_init zl_639 hK hN hP hD hS hA [] [14] [0, 1, 2, 3, 4, 5, 6, 7, 8, 9, 10, 11, 12, 13] rfl rfl rfl rfl rfl hl.1 rfl (Nat.le_of_ble_eq_true rfl) ⟨Nat.le_of_ble_eq_true rfl, Nat.le_of_ble_eq_true rfl⟩ d_law_12 ⟨Nat.le_of_ble_eq_true rfl, Nat.le_of_ble_eq_true rfl⟩ (fun u H locs hK hP hD hS => ?_)
  obtain ⟨bG, bS, bM, dG, dS, dM⟩ := u
  have hK : va_K D kCl [(cW, .int), (cG, .int), (cX, .int), (dG, .int), (dS, .int), (dM, .int)] s := hK
  have hP : va_P D kCl [(aP, .inr (10, [.ref aM, .ref aS, .ref aQ, .ref aI, .ref aC, .ref aR, .ref aL, .ref aB, .ref aK, .ref aZ])), (aM, .inr (8, [.ref aW])), (aW, .inl (cW, 16384, .inl (fun _ => 0))), (aS, .inr (9, [.ref aG, .ref aX, .int 0, .int 0, .int 0, .int 0])), (aG, .inl (cG, 32, .inl (fun _ => 0))), (aX, .inl (cX, 64, .inl (fun _ => 0))), (aQ, .inr (7, [.ref aM, .ref aS, .int (-1)])), (aI, .inr (5, [.int 0, .int 0, .int 0, .int 0, .int 0, .int 0, .int 0, .int 0])), (aC, .inr (3, [.ref aS])), (aR, .inr (1, [.ref aS])), (aL, .inr (6, [.ref aS])), (aB, .inr (2, [.ref aS])), (aK, .inr (4, [.ref aS])), (aZ, .inr (0, [.ref aM, .ref aS, .ref aQ])), (aT, .inr (11, [.ref bG, .ref bS, .ref bM, .int 0, .int 0, .int 0, .int 0, .int 0, .int 0, .int 0, .int 0, .int 0, .int 0, .int 0])), (bG, .inl (dG, 32, .inl (fun _ => 0))), (bS, .inl (dS, 48, .inl (fun _ => 0))), (bM, .inl (dM, 16384, .inl (fun _ => 0)))] H := hP
  have hD : va_D (fun q : Nat => s.heap.size ≤ q) [(aP, .inr (10, [.ref aM, .ref aS, .ref aQ, .ref aI, .ref aC, .ref aR, .ref aL, .ref aB, .ref aK, .ref aZ])), (aM, .inr (8, [.ref aW])), (aW, .inl (cW, 16384, .inl (fun _ => 0))), (aS, .inr (9, [.ref aG, .ref aX, .int 0, .int 0, .int 0, .int 0])), (aG, .inl (cG, 32, .inl (fun _ => 0))), (aX, .inl (cX, 64, .inl (fun _ => 0))), (aQ, .inr (7, [.ref aM, .ref aS, .int (-1)])), (aI, .inr (5, [.int 0, .int 0, .int 0, .int 0, .int 0, .int 0, .int 0, .int 0])), (aC, .inr (3, [.ref aS])), (aR, .inr (1, [.ref aS])), (aL, .inr (6, [.ref aS])), (aB, .inr (2, [.ref aS])), (aK, .inr (4, [.ref aS])), (aZ, .inr (0, [.ref aM, .ref aS, .ref aQ])), (aT, .inr (11, [.ref bG, .ref bS, .ref bM, .int 0, .int 0, .int 0, .int 0, .int 0, .int 0, .int 0, .int 0, .int 0, .int 0, .int 0])), (bG, .inl (dG, 32, .inl (fun _ => 0))), (bS, .inl (dS, 48, .inl (fun _ => 0))), (bM, .inl (dM, 16384, .inl (fun _ => 0)))] := hD
  refine W.widen (k := 18) (n := 32994) (by decide) (by decide) ?_
  refine lv_astore_n (lv' := [(2, .ref aT), (1, .ref aP), (0, .ref b)]) hx hb d_law_15 rfl hl (by decide) rfl (fun ls hl => ?_)
  refine lv_iconst (v := 0) hx hb d_law_16 (by decide) ?_
  refine lv_istore_n (lv' := [(3, .int 0), (2, .ref aT), (1, .ref aP), (0, .ref b)]) hx hb d_law_17 rfl hl (by decide) rfl (fun ls hl => ?_)
  exact law_loop l hL C0 hK (L + 1) 0 0 (Nat.zero_le L) (by omega) nI_0.symm (fun _ => 0) (fun _ => 0) (fun _ => 0) 0 0 0 0 (-1) 0 0 0 0 0 0 0 0 0 0 0 0 0 0 0 0 0 H locs hP hD hS ls (lv_sub hl [3, 2, 1, 0] rfl)
