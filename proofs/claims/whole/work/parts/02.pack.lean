/-! My own packing of the kit's rows: one list of words for every method, a contract in one line, a call in one row, an end in one row. -/
def kBw : List Cond := lw_tbl.filter goodWord
theorem k_good {w : Cond} (h : w ∈ kBw) : (w.onTables && w.keeps) = true ∨ ∃ ty, w = .arrayClass ty := good_of_word (List.mem_filter.mp h).2
theorem k_goodIn {y : MethodName} {cc : ByteArray} {n : Nat} {r : Option FieldType} (h : Cond.code y cc n r ∈ kBw) : GoodIn kBw (Cond.code y cc n r :: kBw) := by
  intro w hw
  rcases List.mem_cons.mp hw with rfl | hw
  · exact ⟨h, k_good h⟩
  · exact ⟨hw, k_good hw⟩
/-- the links between nest mates -/
def k_isNest : Cond → Bool
  | .fieldLinkNest .. => true
  | .methodLinkNest .. => true
  | _ => false
def kNw : List Cond := lw_tbl.filter k_isNest
def kN (U : State) : Prop := ∀ w ∈ kNw, va_Nw w U
theorem kN.warm {s U : State} (hW : s.WarmedH U.vm) (h : kN s) : kN U := by
  intro w hw
  have h1 := h w hw
  have h2 := (List.mem_filter.mp hw).2
  cases w <;> first | exact va_Nw.warmF hW h1 | exact va_Nw.warmM hW h1 | (simp [k_isNest] at h2; done)
theorem kN.same {u U : State} (hv : u.vm = U.vm) (h : kN u) : kN U := by
  intro w hw
  have h1 := h w hw
  have h2 := (List.mem_filter.mp hw).2
  cases w <;> first | exact va_Nw.same rfl hv h1 | (simp [k_isNest] at h2; done)
/-- a method's start: the world ws -/
def kPre (D : va_G) (cl : List vw_C) (tys : List (ClassId × FieldType)) (ws : va_W) (sz : Nat) (U : State) : Prop := U.heap.size = sz ∧ va_P D cl ws U.heap ∧ va_K D cl tys U ∧ va_D (fun _ => True) ws ∧ kN U
def kAt (D : va_G) (cl : List vw_C) (tys : List (ClassId × FieldType)) (A : Nat → Prop) (ws : va_W) (t : State) : Prop := va_P D cl ws t.heap ∧ va_K D cl tys t ∧ va_D A ws
theorem kPre.blind {D : va_G} {cl : List vw_C} {tys : List (ClassId × FieldType)} {ws : va_W} {sz : Nat} {av : List Value} : FrameBlind (va_Pc av (kPre D cl tys ws sz)) := by
  intro a U g mk q
  obtain ⟨q0, q1, qP, qK, qD, qN⟩ := q
  exact ⟨q0, q1, qP, va_K.moved (u := U) (U := U.calling g mk a) (Vm.Alike.refl U.vm) qK, qD, kN.same (u := U) (U := U.calling g mk a) rfl qN⟩
def kQi (D : va_G) (cl : List vw_C) (tys : List (ClassId × FieldType)) (r : Int32) (ws1 : va_W) (A : Nat → Prop) : Array Value → State → Outcome → State → Prop := va_Qi (fun (r' : Int32) (_ : Unit) => r' = r) (fun _ t => kAt D cl tys A ws1 t) A
def kQl (D : va_G) (cl : List vw_C) (tys : List (ClassId × FieldType)) (r : Int64) (ws1 : va_W) (A : Nat → Prop) : Array Value → State → Outcome → State → Prop := va_Ql (fun (r' : Int64) (_ : Unit) => r' = r) (fun _ t => kAt D cl tys A ws1 t) A
def kQv (D : va_G) (cl : List vw_C) (tys : List (ClassId × FieldType)) (ws1 : va_W) (A : Nat → Prop) : Array Value → State → Outcome → State → Prop := va_Qv (fun (_ : Unit) => True) (fun _ t => kAt D cl tys A ws1 t) A
/-- contracts of methods that make nothing: an int (or boolean) answer, no answer -/
def kMi (l : Launch) (y : MethodName) (cc : ByteArray) (n : Nat) (ret : Option FieldType) (fr lo : Nat) (D : va_G) (cl : List vw_C) (tys : List (ClassId × FieldType)) (av : List Value) (ws : va_W) (r : Int32) (ws1 : va_W) : Prop :=
  ∀ sz : Nat, Met l y (.code y cc n ret :: kBw) { frames := fr, cells := 0, slots := 0, locals := lo } (va_Pc av (kPre D cl tys ws sz)) (kQi D cl tys r ws1 (va_A ws sz)) 0 0 (va_A ws sz)
def kMl (l : Launch) (y : MethodName) (cc : ByteArray) (n : Nat) (ret : Option FieldType) (fr lo : Nat) (D : va_G) (cl : List vw_C) (tys : List (ClassId × FieldType)) (av : List Value) (ws : va_W) (r : Int64) (ws1 : va_W) : Prop :=
  ∀ sz : Nat, Met l y (.code y cc n ret :: kBw) { frames := fr, cells := 0, slots := 0, locals := lo } (va_Pc av (kPre D cl tys ws sz)) (kQl D cl tys r ws1 (va_A ws sz)) 0 0 (va_A ws sz)
def kMv (l : Launch) (y : MethodName) (cc : ByteArray) (n : Nat) (ret : Option FieldType) (fr lo : Nat) (D : va_G) (cl : List vw_C) (tys : List (ClassId × FieldType)) (av : List Value) (ws : va_W) (ws1 : va_W) : Prop :=
  ∀ sz : Nat, Met l y (.code y cc n ret :: kBw) { frames := fr, cells := 0, slots := 0, locals := lo } (va_Pc av (kPre D cl tys ws sz)) (kQv D cl tys ws1 (va_A ws sz)) 0 0 (va_A ws sz)
/-- the same as one entry of a body -/
theorem k_entry {l : Launch} {y : MethodName} {cc : ByteArray} {n : Nat} {ret : Option FieldType} {fr mc ms lo : Nat} {D : va_G} {cl : List vw_C} {tys : List (ClassId × FieldType)} {av : List Value} {ws : va_W} {Qc : (Nat → Prop) → Array Value → State → Outcome → State → Prop} (hy : plainName y.cls = true) (hlen : (lg_sl av).length ≤ n) {lv : List (Nat × Value)} (hlv : lv_args 0 av = lv)
    (body : ∀ (p : Program) (e : Env) (s : State) (m : MethodId) (below : List Frame) (meth : Method) (c : Code) (A : Nat → Prop) (ls : Array Slot), p.tables.exec = Jvm.exec → c.code = cc → meth.sig.returnType = ret → c.maxLocals = n → (∀ w ∈ kBw, w.before av.toArray s = true) → s.vm.findClass y.cls = some m.cls → meth.locks = false → meth.name = y.name → (∀ q, s.heap.size ≤ q → A q) → va_K D cl tys s → kN s → va_P D cl ws s.heap → va_D A ws → va_S A s.heap s.heap [] → lv_has ls n lv →
      W p l e { frames := fr, cells := mc, slots := ms, locals := lo } s m av.toArray below meth c s.heap [] 0 0 (MQ below (Qc A) av.toArray s mc ms A) (F0 m 0 ls [])) :
    ∀ sz : Nat, Met l y (.code y cc n ret :: kBw) { frames := fr, cells := mc, slots := ms, locals := lo } (va_Pc av (kPre D cl tys ws sz)) (Qc (va_A ws sz)) mc ms (va_A ws sz) := by
  intro sz
  refine Met.ofW (cc := cc) (maxL := n) (ret := ret) hy rfl ?_
  intro p e s m args below meth c s₁ B hml hv
  obtain ⟨rfl, hsz, hP, hK, hD0, hN⟩ := hv
  have hts := atoms_spec (ws := Cond.code y cc n ret :: kBw) B.pre
  subst hsz
  have hD := hD0.self (sz := s.heap.size)
  have hl := lv_entry av (n := n) hlen
  rw [lg_entry_eq]
  generalize (lg_sl av ++ List.replicate (n - (lg_sl av).length) Slot.unset).toArray = ls at hl ⊢
  rw [hlv] at hl
  exact body p e s m below meth c _ ls B.exec B.bytes B.returns hml (fun w hw => hts w (List.mem_cons_of_mem _ hw)) (findClass_of_methodNamed B.named) B.notSynchronized (name_of_methodNamed B.named B.method).1 (fun q h => Or.inr h) hK hN hP hD va_S.rf hl
theorem k_subP {D : va_G} {cl : List vw_C} {ws ws' : va_W} {H : Heap} (h : va_P D cl ws H) {is : List Nat} (hs : is.map (fun i => ws[i]?) = ws'.map some) : va_P D cl ws' H := by
  intro k q hk
  have h1 : (is.map (fun i => ws[i]?))[k]? = some (some q) := by rw [hs, List.getElem?_map, hk]; rfl
  rw [List.getElem?_map] at h1
  cases hi : is[k]? with
  | none => rw [hi] at h1; cases h1
  | some i => rw [hi] at h1; exact h i q (Option.some.inj h1)
/-- what a method of an object needs of the tables, its own words -/
def kY (y : MethodName) (cc : ByteArray) (n : Nat) (ret : Option FieldType) (k : Nat) : Prop := Cond.instanceMethod y ∈ kBw ∧ Cond.selects y.cls y y ∈ kBw ∧ Cond.initialized y.cls ∈ kBw ∧ Cond.code y cc n ret ∈ kBw ∧ y.cls ≠ "java/lang/invoke/MethodHandle" ∧ y.cls ≠ "java/lang/invoke/VarHandle" ∧ (parseMethodDescriptor y.desc).map (fun d => d.parameters.length) = some k
def kYs (y : MethodName) (cc : ByteArray) (n : Nat) (ret : Option FieldType) (k : Nat) : Prop := Cond.static y ∈ kBw ∧ Cond.initialized y.cls ∈ kBw ∧ Cond.code y cc n ret ∈ kBw ∧ y.cls ≠ "java/lang/invoke/MethodHandle" ∧ y.cls ≠ "java/lang/invoke/VarHandle" ∧ (parseMethodDescriptor y.desc).map (fun d => d.parameters.length) = some k
section KP
variable {p : Program} {l : Launch} {e : Env} {R : Room} {s : State} {m : MethodId} {args : Array Value} {below : List Frame} {meth : Method} {c : Code} {H : Heap} {locs : List Loc} {cells slots : Nat} {Q : State → Prop}
variable {cc bytes : ByteArray} {pc n nL k fr lo index : Nat} {ls : Array Slot} {rest st0 : List Value} {D : va_G} {cl : List vw_C} {A : Nat → Prop} {tys tysC : List (ClassId × FieldType)} {ws wc wr w1 wj : va_W} {own : String} {y : MethodName} {ret : Option FieldType} {As : List Value} {b : Nat} {lv : List (Nat × Value)}
/-- a run of a callee's contract on an object -/
theorem k_runV {mc ms : Nat} {Qc : Array Value → State → Outcome → State → Prop} {free : Addr → Prop} (S : CallFix p m c cc nL s args kBw own) (hy : kY y bytes n ret k) (hlink : Cond.methodLink own index y ∈ kBw)
    (hM : Met l y (.code y bytes n ret :: kBw) { frames := fr, cells := mc, slots := ms, locals := lo } (va_Pc (.ref b :: As) (kPre D cl tysC wc H.size)) Qc mc ms free)
    (hK : va_K D cl tysC s) (hN : kN s) (hP : va_P D cl wc H) (hD : va_D A wc) (q0 : Nat) {ci : Nat} {q : vw_C} {fs : List Value} (he : wc[q0]? = some (b, .inr (ci, fs))) (hc : cl[ci]? = some q) (hq : q.1 = y.cls) (hn : As.length = k) (hl : ls.size = nL) (hst : st0 = As.reverse ++ .ref b :: rest) (hr : (rest.map fun v => v.category).sum ≤ 8) (hR : fr + 1 ≤ R.frames ∧ 8 + (n + 11) + lo ≤ R.locals) (hdg : decode cc pc = .ok (.invokevirtual index, 3)) (hf : cells + mc ≤ R.cells ∧ slots + ms ≤ R.slots) :
    va_Run p l e R s m args below meth c H locs cells slots mc ms (F0 m pc ls st0) rest (Qc (Value.ref b :: As).toArray) free := by
  obtain ⟨h1, h2, h3, h4, h5, h6, h7⟩ := hy
  have hts := S.2.2.2.2
  refine va_runV S hM ⟨callB_of k hts (k_goodIn h4) rfl rfl rfl (hts _ h3) (hts _ hlink) ⟨h5, h6, h7⟩ hR, hts _ h1, hts _ h2⟩ ⟨kPre.blind, ?_, fun U hU hW => ⟨rfl, by rw [hU], by rw [hU]; exact hP, va_K.moved hW.alike hK, hD.weaken (fun _ _ _ _ => trivial), hN.warm hW⟩⟩ rfl hn hl hst (lv_room hr) hdg hf
  rw [← hq]
  exact va_recv (q0 := q0) hK hP hc he
theorem k_runS {mc ms : Nat} {Qc : Array Value → State → Outcome → State → Prop} {free : Addr → Prop} (S : CallFix p m c cc nL s args kBw own) (hy : kYs y bytes n ret k) (hlink : Cond.methodLink own index y ∈ kBw)
    (hM : Met l y (.code y bytes n ret :: kBw) { frames := fr, cells := mc, slots := ms, locals := lo } (va_Pc As (kPre D cl tysC wc H.size)) Qc mc ms free)
    (hK : va_K D cl tysC s) (hN : kN s) (hP : va_P D cl wc H) (hD : va_D A wc) (hn : As.length = k) (hl : ls.size = nL) (hst : st0 = As.reverse ++ rest) (hr : (rest.map fun v => v.category).sum ≤ 8) (hR : fr + 1 ≤ R.frames ∧ 8 + (n + 11) + lo ≤ R.locals) (hdg : decode cc pc = .ok (.invokestatic index, 3)) (hf : cells + mc ≤ R.cells ∧ slots + ms ≤ R.slots) :
    va_Run p l e R s m args below meth c H locs cells slots mc ms (F0 m pc ls st0) rest (Qc As.toArray) free := by
  obtain ⟨h1, h3, h4, h5, h6, h7⟩ := hy
  have hts := S.2.2.2.2
  exact va_runS S hM ⟨callB_of k hts (k_goodIn h4) rfl rfl rfl (hts _ h3) (hts _ hlink) ⟨h5, h6, h7⟩ hR, hts _ h1⟩ ⟨kPre.blind, fun U hU hW => ⟨rfl, by rw [hU], by rw [hU]; exact hP, va_K.moved hW.alike hK, hD.weaken (fun _ _ _ _ => trivial), hN.warm hW⟩⟩ rfl hn hl hst (lv_room hr) hdg hf
theorem k_runSN {mc ms : Nat} {host : String} {Qc : Array Value → State → Outcome → State → Prop} {free : Addr → Prop} (S : CallFix p m c cc nL s args kBw own) (hy : kYs y bytes n ret k) (hlink : Cond.methodLinkNest own index y host ∈ kNw)
    (hM : Met l y (.code y bytes n ret :: kBw) { frames := fr, cells := mc, slots := ms, locals := lo } (va_Pc As (kPre D cl tysC wc H.size)) Qc mc ms free)
    (hK : va_K D cl tysC s) (hN : kN s) (hP : va_P D cl wc H) (hD : va_D A wc) (hn : As.length = k) (hl : ls.size = nL) (hst : st0 = As.reverse ++ rest) (hr : (rest.map fun v => v.category).sum ≤ 8) (hR : fr + 1 ≤ R.frames ∧ 8 + (n + 11) + lo ≤ R.locals) (hdg : decode cc pc = .ok (.invokestatic index, 3)) (hf : cells + mc ≤ R.cells ∧ slots + ms ≤ R.slots) :
    va_Run p l e R s m args below meth c H locs cells slots mc ms (F0 m pc ls st0) rest (Qc As.toArray) free := by
  obtain ⟨h1, h3, h4, h5, h6, h7⟩ := hy
  have hts := S.2.2.2.2
  exact va_runSN S hM ⟨va_cnB k hts (k_goodIn h4) rfl rfl rfl (hN _ hlink) (hts _ h3) ⟨h5, h6, h7⟩ hR, hts _ h1, trivial⟩ ⟨kPre.blind, fun U hU hW => ⟨rfl, by rw [hU], by rw [hU]; exact hP, va_K.moved hW.alike hK, hD.weaken (fun _ _ _ _ => trivial), hN.warm hW⟩⟩ rfl hn hl hst (lv_room hr) hdg hf
end KP
/-- the places of a call: the callee's cells, the others, and the order of all behind it -/
def k_pl (isC isR isJ : List Nat) : Bool := va_nd isC && (va_nd isR && (va_nd isJ && isR.all (fun i => decide (i ∉ isC))))
theorem k_pl_spec {isC isR isJ : List Nat} (h : k_pl isC isR isJ = true) : va_nd isC = true ∧ va_nd isR = true ∧ va_nd isJ = true ∧ ∀ i ∈ isR, i ∉ isC := by
  simp only [k_pl, Bool.and_eq_true, List.all_eq_true, decide_eq_true_eq] at h
  exact ⟨h.1, h.2.1, h.2.2.1, h.2.2.2⟩
section KC
variable {p : Program} {l : Launch} {e : Env} {R : Room} {s : State} {m : MethodId} {args : Array Value} {below : List Frame} {meth : Method} {c : Code} {H : Heap} {locs : List Loc} {cells slots : Nat} {Q : State → Prop}
variable {cc bytes : ByteArray} {pc n nL k fr lo index : Nat} {ls : Array Slot} {rest st0 : List Value} {D : va_G} {cl : List vw_C} {A : Nat → Prop} {tys tysC : List (ClassId × FieldType)} {ws wc wr w1 wj : va_W} {own : String} {y : MethodName} {ret : Option FieldType} {As : List Value} {b : Nat} {lv : List (Nat × Value)} {a : Array Value} {H0 : Heap}
theorem k_goi {r : Int32} (hP : va_P D cl ws H) (hD : va_D A ws) (hS : va_S A H0 H locs) (hA : ∀ q, H0.size ≤ q → A q) (isC isR isJ : List Nat) (hC : isC.map (fun i => ws[i]?) = wc.map some) (hR : isR.map (fun i => ws[i]?) = wr.map some) (hJ : isJ.map (fun i => (wr ++ w1)[i]?) = wj.map some) (hpl : k_pl isC isR isJ = true)
    (hr : va_P D cl wc H → va_D A wc → va_Run p l e R s m args below meth c H locs cells slots 0 0 (F0 m pc ls st0) rest (kQi D cl tysC r w1 (va_A wc H.size) a) (va_A wc H.size))
    (kk : ∀ (H1 : Heap) (locs1 : List Loc), va_P D cl wj H1 → va_D A wj → va_S A H0 H1 locs1 → W p l e R s m args below meth c H1 locs1 cells slots Q (F0 m (pc + 3) ls (.int r :: rest))) : W p l e R s m args below meth c H locs cells slots Q (F0 m pc ls st0) := by
  obtain ⟨hnC, hnR, hnJ, hdis⟩ := k_pl_spec hpl
  have hFc := va_free (wc := wc) hD hS hA isC hC
  refine va_calli (hr (k_subP hP hC) (hD.sub isC hnC hC)) hS (fun q _ h => hFc q h) hFc (fun r' u t H1 locs1 ht hvm hw hB hz1 hk1 hS1 => ?_)
  have hw : r' = r := hw
  subst hw
  obtain ⟨hP1, hK1, hD1⟩ := hB
  rw [ht] at hP1
  obtain ⟨hP2, hD2⟩ := va_join hP hD isC isR hC hR hnR hdis hk1 hFc hP1 hD1
  exact kk H1 locs1 (k_subP hP2 hJ) (hD2.sub isJ hnJ hJ) hS1
theorem k_gov (hP : va_P D cl ws H) (hD : va_D A ws) (hS : va_S A H0 H locs) (hA : ∀ q, H0.size ≤ q → A q) (isC isR isJ : List Nat) (hC : isC.map (fun i => ws[i]?) = wc.map some) (hR : isR.map (fun i => ws[i]?) = wr.map some) (hJ : isJ.map (fun i => (wr ++ w1)[i]?) = wj.map some) (hpl : k_pl isC isR isJ = true)
    (hr : va_P D cl wc H → va_D A wc → va_Run p l e R s m args below meth c H locs cells slots 0 0 (F0 m pc ls st0) rest (kQv D cl tysC w1 (va_A wc H.size) a) (va_A wc H.size))
    (kk : ∀ (H1 : Heap) (locs1 : List Loc), va_P D cl wj H1 → va_D A wj → va_S A H0 H1 locs1 → W p l e R s m args below meth c H1 locs1 cells slots Q (F0 m (pc + 3) ls rest)) : W p l e R s m args below meth c H locs cells slots Q (F0 m pc ls st0) := by
  obtain ⟨hnC, hnR, hnJ, hdis⟩ := k_pl_spec hpl
  have hFc := va_free (wc := wc) hD hS hA isC hC
  refine va_callv (hr (k_subP hP hC) (hD.sub isC hnC hC)) hS (fun q _ h => hFc q h) hFc (fun u t H1 locs1 ht hvm hw hB hz1 hk1 hS1 => ?_)
  obtain ⟨hP1, hK1, hD1⟩ := hB
  rw [ht] at hP1
  obtain ⟨hP2, hD2⟩ := va_join hP hD isC isR hC hR hnR hdis hk1 hFc hP1 hD1
  exact kk H1 locs1 (k_subP hP2 hJ) (hD2.sub isJ hnJ hJ) hS1
/-- a call of an object's method with an int answer, in one row -/
theorem k_cVi {r : Int32} (S : CallFix p m c cc nL s args kBw own) (hM : kMi l y bytes n ret fr lo D cl tysC (.ref b :: As) wc r w1) (hy : kY y bytes n ret k) (hlink : Cond.methodLink own index y ∈ kBw) (hK : va_K D cl tys s) (hN : kN s) (hP : va_P D cl ws H) (hD : va_D A ws) (hS : va_S A H0 H locs) (hA : ∀ q, H0.size ≤ q → A q) (isT isC isR isJ : List Nat) (hT : isT.filterMap (fun i => tys[i]?) = tysC) (hC : isC.map (fun i => ws[i]?) = wc.map some) (hR : isR.map (fun i => ws[i]?) = wr.map some) (hJ : isJ.map (fun i => (wr ++ w1)[i]?) = wj.map some) (hpl : k_pl isC isR isJ = true)
    (q0 : Nat) {ci : Nat} {q : vw_C} {fs : List Value} (he : wc[q0]? = some (b, .inr (ci, fs))) (hc : cl[ci]? = some q) (hq : q.1 = y.cls) (hn : As.length = k) (hl : ls.size = nL) (hst : st0 = As.reverse ++ .ref b :: rest) (hr : (rest.map fun v => v.category).sum ≤ 8) (hRm : fr + 1 ≤ R.frames ∧ 8 + (n + 11) + lo ≤ R.locals) (hdg : decode cc pc = .ok (.invokevirtual index, 3)) (hf : cells ≤ R.cells ∧ slots ≤ R.slots)
    (kk : ∀ (H1 : Heap) (locs1 : List Loc), va_P D cl wj H1 → va_D A wj → va_S A H0 H1 locs1 → W p l e R s m args below meth c H1 locs1 cells slots Q (F0 m (pc + 3) ls (.int r :: rest))) : W p l e R s m args below meth c H locs cells slots Q (F0 m pc ls st0) :=
  k_goi hP hD hS hA isC isR isJ hC hR hJ hpl (fun hP9 hD9 => k_runV S hy hlink (hM H.size) (hK.sub isT hT) hN hP9 hD9 q0 he hc hq hn hl hst hr hRm hdg hf) kk
theorem k_cVv (S : CallFix p m c cc nL s args kBw own) (hM : kMv l y bytes n ret fr lo D cl tysC (.ref b :: As) wc w1) (hy : kY y bytes n ret k) (hlink : Cond.methodLink own index y ∈ kBw) (hK : va_K D cl tys s) (hN : kN s) (hP : va_P D cl ws H) (hD : va_D A ws) (hS : va_S A H0 H locs) (hA : ∀ q, H0.size ≤ q → A q) (isT isC isR isJ : List Nat) (hT : isT.filterMap (fun i => tys[i]?) = tysC) (hC : isC.map (fun i => ws[i]?) = wc.map some) (hR : isR.map (fun i => ws[i]?) = wr.map some) (hJ : isJ.map (fun i => (wr ++ w1)[i]?) = wj.map some) (hpl : k_pl isC isR isJ = true)
    (q0 : Nat) {ci : Nat} {q : vw_C} {fs : List Value} (he : wc[q0]? = some (b, .inr (ci, fs))) (hc : cl[ci]? = some q) (hq : q.1 = y.cls) (hn : As.length = k) (hl : ls.size = nL) (hst : st0 = As.reverse ++ .ref b :: rest) (hr : (rest.map fun v => v.category).sum ≤ 8) (hRm : fr + 1 ≤ R.frames ∧ 8 + (n + 11) + lo ≤ R.locals) (hdg : decode cc pc = .ok (.invokevirtual index, 3)) (hf : cells ≤ R.cells ∧ slots ≤ R.slots)
    (kk : ∀ (H1 : Heap) (locs1 : List Loc), va_P D cl wj H1 → va_D A wj → va_S A H0 H1 locs1 → W p l e R s m args below meth c H1 locs1 cells slots Q (F0 m (pc + 3) ls rest)) : W p l e R s m args below meth c H locs cells slots Q (F0 m pc ls st0) :=
  k_gov hP hD hS hA isC isR isJ hC hR hJ hpl (fun hP9 hD9 => k_runV S hy hlink (hM H.size) (hK.sub isT hT) hN hP9 hD9 q0 he hc hq hn hl hst hr hRm hdg hf) kk
/-- static calls -/
theorem k_cSi {r : Int32} (S : CallFix p m c cc nL s args kBw own) (hM : kMi l y bytes n ret fr lo D cl tysC As wc r w1) (hy : kYs y bytes n ret k) (hlink : Cond.methodLink own index y ∈ kBw) (hK : va_K D cl tys s) (hN : kN s) (hP : va_P D cl ws H) (hD : va_D A ws) (hS : va_S A H0 H locs) (hA : ∀ q, H0.size ≤ q → A q) (isT isC isR isJ : List Nat) (hT : isT.filterMap (fun i => tys[i]?) = tysC) (hC : isC.map (fun i => ws[i]?) = wc.map some) (hR : isR.map (fun i => ws[i]?) = wr.map some) (hJ : isJ.map (fun i => (wr ++ w1)[i]?) = wj.map some) (hpl : k_pl isC isR isJ = true)
    (hn : As.length = k) (hl : ls.size = nL) (hst : st0 = As.reverse ++ rest) (hr : (rest.map fun v => v.category).sum ≤ 8) (hRm : fr + 1 ≤ R.frames ∧ 8 + (n + 11) + lo ≤ R.locals) (hdg : decode cc pc = .ok (.invokestatic index, 3)) (hf : cells ≤ R.cells ∧ slots ≤ R.slots)
    (kk : ∀ (H1 : Heap) (locs1 : List Loc), va_P D cl wj H1 → va_D A wj → va_S A H0 H1 locs1 → W p l e R s m args below meth c H1 locs1 cells slots Q (F0 m (pc + 3) ls (.int r :: rest))) : W p l e R s m args below meth c H locs cells slots Q (F0 m pc ls st0) :=
  k_goi hP hD hS hA isC isR isJ hC hR hJ hpl (fun hP9 hD9 => k_runS S hy hlink (hM H.size) (hK.sub isT hT) hN hP9 hD9 hn hl hst hr hRm hdg hf) kk
theorem k_cSv (S : CallFix p m c cc nL s args kBw own) (hM : kMv l y bytes n ret fr lo D cl tysC As wc w1) (hy : kYs y bytes n ret k) (hlink : Cond.methodLink own index y ∈ kBw) (hK : va_K D cl tys s) (hN : kN s) (hP : va_P D cl ws H) (hD : va_D A ws) (hS : va_S A H0 H locs) (hA : ∀ q, H0.size ≤ q → A q) (isT isC isR isJ : List Nat) (hT : isT.filterMap (fun i => tys[i]?) = tysC) (hC : isC.map (fun i => ws[i]?) = wc.map some) (hR : isR.map (fun i => ws[i]?) = wr.map some) (hJ : isJ.map (fun i => (wr ++ w1)[i]?) = wj.map some) (hpl : k_pl isC isR isJ = true)
    (hn : As.length = k) (hl : ls.size = nL) (hst : st0 = As.reverse ++ rest) (hr : (rest.map fun v => v.category).sum ≤ 8) (hRm : fr + 1 ≤ R.frames ∧ 8 + (n + 11) + lo ≤ R.locals) (hdg : decode cc pc = .ok (.invokestatic index, 3)) (hf : cells ≤ R.cells ∧ slots ≤ R.slots)
    (kk : ∀ (H1 : Heap) (locs1 : List Loc), va_P D cl wj H1 → va_D A wj → va_S A H0 H1 locs1 → W p l e R s m args below meth c H1 locs1 cells slots Q (F0 m (pc + 3) ls rest)) : W p l e R s m args below meth c H locs cells slots Q (F0 m pc ls st0) :=
  k_gov hP hD hS hA isC isR isJ hC hR hJ hpl (fun hP9 hD9 => k_runS S hy hlink (hM H.size) (hK.sub isT hT) hN hP9 hD9 hn hl hst hr hRm hdg hf) kk
theorem k_cSNi {host : String} {r : Int32} (S : CallFix p m c cc nL s args kBw own) (hM : kMi l y bytes n ret fr lo D cl tysC As wc r w1) (hy : kYs y bytes n ret k) (hlink : Cond.methodLinkNest own index y host ∈ kNw) (hK : va_K D cl tys s) (hN : kN s) (hP : va_P D cl ws H) (hD : va_D A ws) (hS : va_S A H0 H locs) (hA : ∀ q, H0.size ≤ q → A q) (isT isC isR isJ : List Nat) (hT : isT.filterMap (fun i => tys[i]?) = tysC) (hC : isC.map (fun i => ws[i]?) = wc.map some) (hR : isR.map (fun i => ws[i]?) = wr.map some) (hJ : isJ.map (fun i => (wr ++ w1)[i]?) = wj.map some) (hpl : k_pl isC isR isJ = true)
    (hn : As.length = k) (hl : ls.size = nL) (hst : st0 = As.reverse ++ rest) (hr : (rest.map fun v => v.category).sum ≤ 8) (hRm : fr + 1 ≤ R.frames ∧ 8 + (n + 11) + lo ≤ R.locals) (hdg : decode cc pc = .ok (.invokestatic index, 3)) (hf : cells ≤ R.cells ∧ slots ≤ R.slots)
    (kk : ∀ (H1 : Heap) (locs1 : List Loc), va_P D cl wj H1 → va_D A wj → va_S A H0 H1 locs1 → W p l e R s m args below meth c H1 locs1 cells slots Q (F0 m (pc + 3) ls (.int r :: rest))) : W p l e R s m args below meth c H locs cells slots Q (F0 m pc ls st0) :=
  k_goi hP hD hS hA isC isR isJ hC hR hJ hpl (fun hP9 hD9 => k_runSN S hy hlink (hM H.size) (hK.sub isT hT) hN hP9 hD9 hn hl hst hr hRm hdg hf) kk
/-- ends -/
theorem k_iret {r v : Int32} (hx : p.tables.exec = Jvm.exec) (hb : c.code = cc) (hr : meth.sig.returnType = some .int) (hlocks : meth.locks = false) (hK : va_K D cl tys s) (hP : va_P D cl ws H) (hD : va_D A ws) (hS : va_S A s.heap H locs) (isJ : List Nat) (hnJ : va_nd isJ = true) (hJ : isJ.map (fun i => ws[i]?) = w1.map some) (hv : v = r) (hdg : decode cc pc = .ok (.ireturn, 1)) : W p l e R s m args below meth c H locs cells slots (MQ below (kQi D cl tys r w1 A) args s cells slots A) (F0 m pc ls [.int v]) :=
  W.iret hx hb hr (fun t ht hW => ⟨⟨v, (), rfl, hv, by rw [ht]; exact k_subP hP hJ, va_K.moved hW.alike hK, hD.sub isJ hnJ hJ⟩, hS.F ht⟩) hS.2.2 hdg hlocks
theorem k_zret {r v : Int32} {ty : FieldType} (hx : p.tables.exec = Jvm.exec) (hb : c.code = cc) (hr : meth.sig.returnType = some ty) (hlocks : meth.locks = false) (hK : va_K D cl tys s) (hP : va_P D cl ws H) (hD : va_D A ws) (hS : va_S A s.heap H locs) (isJ : List Nat) (hnJ : va_nd isJ = true) (hJ : isJ.map (fun i => ws[i]?) = w1.map some) (hv : v = r) (hnr : narrow ty (.int v) = .int v) (hdg : decode cc pc = .ok (.ireturn, 1)) : W p l e R s m args below meth c H locs cells slots (MQ below (kQi D cl tys r w1 A) args s cells slots A) (F0 m pc ls [.int v]) :=
  W.zret hx hb hr hnr (fun t ht hW => ⟨⟨v, (), rfl, hv, by rw [ht]; exact k_subP hP hJ, va_K.moved hW.alike hK, hD.sub isJ hnJ hJ⟩, hS.F ht⟩) hS.2.2 hdg hlocks
theorem k_vret (hx : p.tables.exec = Jvm.exec) (hb : c.code = cc) (hr : meth.sig.returnType = none) (hlocks : meth.locks = false) (hK : va_K D cl tys s) (hP : va_P D cl ws H) (hD : va_D A ws) (hS : va_S A s.heap H locs) (isJ : List Nat) (hnJ : va_nd isJ = true) (hJ : isJ.map (fun i => ws[i]?) = w1.map some) (hdg : decode cc pc = .ok (.return_, 1)) : W p l e R s m args below meth c H locs cells slots (MQ below (kQv D cl tys w1 A) args s cells slots A) (F0 m pc ls []) :=
  W.vret hx hb hr (fun t ht hW => ⟨⟨(), rfl, trivial, by rw [ht]; exact k_subP hP hJ, va_K.moved hW.alike hK, hD.sub isJ hnJ hJ⟩, hS.F ht⟩) hS.2.2 hdg hlocks
/-- two arms that come together with a value each on the stack -/
theorem k_join {c0 : Prop} [Decidable c0] {x1 x2 : Int32} (J : Nat) (kk : ∀ v : Int32, v = (if c0 then x1 else x2) → W p l e R s m args below meth c H locs cells slots Q (F0 m J ls (.int v :: rest)))
    (hh : (c0 → W p l e R s m args below meth c H locs cells slots Q (F0 m J ls (.int x1 :: rest))) → (¬ c0 → W p l e R s m args below meth c H locs cells slots Q (F0 m J ls (.int x2 :: rest))) → W p l e R s m args below meth c H locs cells slots Q (F0 m pc ls st0)) : W p l e R s m args below meth c H locs cells slots Q (F0 m pc ls st0) :=
  hh (fun h => kk x1 (if_pos h).symm) (fun h => kk x2 (if_neg h).symm)
/-- a table switch, in range or not -/
theorem k_table (hexec : p.tables.exec = Jvm.exec) (hb : c.code = cc) {dflt lo hi : Int} {offs : Array Int} {len : Nat} {x : Int32} {off : Int} {tgt : Nat} (hdg : decode cc pc = .ok (.tableswitch dflt lo hi offs, len)) (ho : (if x.toInt < lo ∨ hi < x.toInt then some dflt else offs[(x.toInt - lo).toNat]?) = some off) (ht : (pc : Int) + off = (tgt : Int))
    (k : W p l e R s m args below meth c H locs cells slots Q (F0 m tgt ls rest)) : W p l e R s m args below meth c H locs cells slots Q (F0 m pc ls (.int x :: rest)) := by
  by_cases h : x.toInt < lo ∨ hi < x.toInt
  · rw [if_pos h] at ho
    cases ho
    exact lv_tableOut hexec hb hdg h ht k
  · rw [if_neg h] at ho
    exact lv_tableIn hexec hb hdg (fun q => h (Or.inl q)) (fun q => h (Or.inr q)) ho ht k
theorem k_gol {r : Int64} (hP : va_P D cl ws H) (hD : va_D A ws) (hS : va_S A H0 H locs) (hA : ∀ q, H0.size ≤ q → A q) (isC isR isJ : List Nat) (hC : isC.map (fun i => ws[i]?) = wc.map some) (hR : isR.map (fun i => ws[i]?) = wr.map some) (hJ : isJ.map (fun i => (wr ++ w1)[i]?) = wj.map some) (hpl : k_pl isC isR isJ = true)
    (hr : va_P D cl wc H → va_D A wc → va_Run p l e R s m args below meth c H locs cells slots 0 0 (F0 m pc ls st0) rest (kQl D cl tysC r w1 (va_A wc H.size) a) (va_A wc H.size))
    (kk : ∀ (H1 : Heap) (locs1 : List Loc), va_P D cl wj H1 → va_D A wj → va_S A H0 H1 locs1 → W p l e R s m args below meth c H1 locs1 cells slots Q (F0 m (pc + 3) ls (.long r :: rest))) : W p l e R s m args below meth c H locs cells slots Q (F0 m pc ls st0) := by
  obtain ⟨hnC, hnR, hnJ, hdis⟩ := k_pl_spec hpl
  have hFc := va_free (wc := wc) hD hS hA isC hC
  refine va_calll (hr (k_subP hP hC) (hD.sub isC hnC hC)) hS (fun q _ h => hFc q h) hFc (fun r' u t H1 locs1 ht hvm hw hB hz1 hk1 hS1 => ?_)
  have hw : r' = r := hw
  subst hw
  obtain ⟨hP1, hK1, hD1⟩ := hB
  rw [ht] at hP1
  obtain ⟨hP2, hD2⟩ := va_join hP hD isC isR hC hR hnR hdis hk1 hFc hP1 hD1
  exact kk H1 locs1 (k_subP hP2 hJ) (hD2.sub isJ hnJ hJ) hS1
theorem k_cSl {r : Int64} (S : CallFix p m c cc nL s args kBw own) (hM : kMl l y bytes n ret fr lo D cl tysC As wc r w1) (hy : kYs y bytes n ret k) (hlink : Cond.methodLink own index y ∈ kBw) (hK : va_K D cl tys s) (hN : kN s) (hP : va_P D cl ws H) (hD : va_D A ws) (hS : va_S A H0 H locs) (hA : ∀ q, H0.size ≤ q → A q) (isT isC isR isJ : List Nat) (hT : isT.filterMap (fun i => tys[i]?) = tysC) (hC : isC.map (fun i => ws[i]?) = wc.map some) (hR : isR.map (fun i => ws[i]?) = wr.map some) (hJ : isJ.map (fun i => (wr ++ w1)[i]?) = wj.map some) (hpl : k_pl isC isR isJ = true)
    (hn : As.length = k) (hl : ls.size = nL) (hst : st0 = As.reverse ++ rest) (hr : (rest.map fun v => v.category).sum ≤ 8) (hRm : fr + 1 ≤ R.frames ∧ 8 + (n + 11) + lo ≤ R.locals) (hdg : decode cc pc = .ok (.invokestatic index, 3)) (hf : cells ≤ R.cells ∧ slots ≤ R.slots)
    (kk : ∀ (H1 : Heap) (locs1 : List Loc), va_P D cl wj H1 → va_D A wj → va_S A H0 H1 locs1 → W p l e R s m args below meth c H1 locs1 cells slots Q (F0 m (pc + 3) ls (.long r :: rest))) : W p l e R s m args below meth c H locs cells slots Q (F0 m pc ls st0) :=
  k_gol hP hD hS hA isC isR isJ hC hR hJ hpl (fun hP9 hD9 => k_runS S hy hlink (hM H.size) (hK.sub isT hT) hN hP9 hD9 hn hl hst hr hRm hdg hf) kk
theorem k_lret {r v : Int64} (hx : p.tables.exec = Jvm.exec) (hb : c.code = cc) (hr : meth.sig.returnType = some .long) (hlocks : meth.locks = false) (hK : va_K D cl tys s) (hP : va_P D cl ws H) (hD : va_D A ws) (hS : va_S A s.heap H locs) (isJ : List Nat) (hnJ : va_nd isJ = true) (hJ : isJ.map (fun i => ws[i]?) = w1.map some) (hv : v = r) (hdg : decode cc pc = .ok (.lreturn, 1)) : W p l e R s m args below meth c H locs cells slots (MQ below (kQl D cl tys r w1 A) args s cells slots A) (F0 m pc ls [.long v]) :=
  W.lret hx hb hr (fun t ht hW => ⟨⟨v, (), rfl, hv, by rw [ht]; exact k_subP hP hJ, va_K.moved hW.alike hK, hD.sub isJ hnJ hJ⟩, hS.F ht⟩) hS.2.2 hdg hlocks
/-- two arms that come together with a local of a value each -/
theorem k_joinL {c0 : Prop} [Decidable c0] {x1 x2 : Int32} (J i : Nat) (lr : List (Nat × Value)) (kk : ∀ (v : Int32) (ls1 : Array Slot), v = (if c0 then x1 else x2) → lv_has ls1 nL ((i, .int v) :: lr) → W p l e R s m args below meth c H locs cells slots Q (F0 m J ls1 rest))
    (hh : (c0 → ∀ ls1 : Array Slot, lv_has ls1 nL ((i, .int x1) :: lr) → W p l e R s m args below meth c H locs cells slots Q (F0 m J ls1 rest)) → (¬ c0 → ∀ ls1 : Array Slot, lv_has ls1 nL ((i, .int x2) :: lr) → W p l e R s m args below meth c H locs cells slots Q (F0 m J ls1 rest)) → W p l e R s m args below meth c H locs cells slots Q (F0 m pc ls st0)) : W p l e R s m args below meth c H locs cells slots Q (F0 m pc ls st0) :=
  hh (fun h ls1 hl => kk x1 ls1 (if_pos h).symm hl) (fun h ls1 hl => kk x2 ls1 (if_neg h).symm hl)
/-- a number that is known -/
theorem k_fold {x : Int32} (v : Int32) (h : x = v) (kk : W p l e R s m args below meth c H locs cells slots Q (F0 m pc ls (.int v :: rest))) : W p l e R s m args below meth c H locs cells slots Q (F0 m pc ls (.int x :: rest)) := by
  rw [h]; exact kk
theorem k_iald (hexec : p.tables.exec = Jvm.exec) (hb : c.code = cc) (hK : va_K D cl tys s) (hP : va_P D cl ws H) (q0 t0 : Nat) {a0 : Nat} {cA : ClassId} {n0 : Nat} {f : Nat → Int32} (ha : ws[q0]? = some (a0, .inl (cA, n0, .inl f))) (ht : tys[t0]? = some (cA, .int)) {i : Int32} {j : Nat} (hj : i.toNatClampNeg = j) (hin : vp_in i n0) (hdg : decode cc pc = .ok (.iaload, 1))
    (kk : W p l e R s m args below meth c H locs cells slots Q (F0 m (pc + 1) ls (.int (f j) :: rest))) : W p l e R s m args below meth c H locs cells slots Q (F0 m pc ls (.int i :: .ref a0 :: rest)) := by
  subst hj
  exact va_iald hexec hb hK hP q0 t0 ha ht hin hdg kk
theorem k_iast (hexec : p.tables.exec = Jvm.exec) (hb : c.code = cc) (hK : va_K D cl tys s) (hP : va_P D cl ws H) (hD : va_D A ws) (hS : va_S A H0 H locs) (q0 t0 : Nat) {a0 : Nat} {cA : ClassId} {n0 : Nat} {f : Nat → Int32} (ha : ws[q0]? = some (a0, .inl (cA, n0, .inl f))) (ht : tys[t0]? = some (cA, .int)) {i x : Int32} {j : Nat} (hj : i.toNatClampNeg = j) (hin : vp_in i n0) (hdg : decode cc pc = .ok (.iastore, 1))
    (kk : ∀ (H1 : Heap) (locs1 : List Loc), va_P D cl (ws.set q0 (a0, .inl (cA, n0, .inl (upd f j x)))) H1 → va_D A (ws.set q0 (a0, .inl (cA, n0, .inl (upd f j x)))) → va_S A H0 H1 locs1 → W p l e R s m args below meth c H1 locs1 cells slots Q (F0 m (pc + 1) ls rest)) : W p l e R s m args below meth c H locs cells slots Q (F0 m pc ls (.int x :: .int i :: .ref a0 :: rest)) := by
  subst hj
  exact va_iast hexec hb hK hP hD hS q0 t0 ha ht hin hdg kk
end KC
/-- the place of an array that an int names -/
def ix (i : Int32) : Nat := i.toNatClampNeg
def ush (x y : Int32) : Int32 := (x.toUInt32 >>> (y.toUInt32 &&& Int32.toUInt32 31)).toInt32
def shl (x y : Int32) : Int32 := x <<< (y &&& 31)
def shr (x y : Int32) : Int32 := x >>> (y &&& 31)
def lush (x : Int64) (y : Int32) : Int64 := (x.toUInt64 >>> (y.toInt64.toUInt64 &&& Int64.toUInt64 63)).toInt64
def lshr (x : Int64) (y : Int32) : Int64 := x >>> (y.toInt64 &&& 63)
theorem ix32 (x : Int32) : vp_in (x &&& 31) 32 := pk_andIn x 5 (by decide) (by decide)
theorem ix64 (x : Int32) : vp_in (x &&& 63) 64 := pk_andIn x 6 (by decide) (by decide)
theorem ixW (x : Int32) : vp_in (ush (x &&& 65535) 2) 16384 := by
  obtain ⟨j, hj, e⟩ := pk_andE x (m := 65535) 16 (by decide)
  rw [e]
  unfold ush
  rw [pk_ushrN (n := j) (by omega) 2 2 (by decide)]
  exact vp_in_nI (by omega) (by decide)
