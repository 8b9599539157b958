/-- contracts of constructors: no answer, cells that are new -/
def kMn {S : Type} (l : Launch) (y : MethodName) (cc : ByteArray) (n fr lo mc ms : Nat) (D : va_G) (cl : List vw_C) (tys : List (ClassId × FieldType)) (av : List Value) (ws : va_W) (tys1 : S → List (ClassId × FieldType)) (ws1 : S → va_W) : Prop :=
  ∀ sz : Nat, Met l y (.code y cc n none :: kBw) { frames := fr, cells := mc, slots := ms, locals := lo } (va_Pc av (kPre D cl tys ws sz)) (va_Qv (fun (_ : S) => True) (fun u t => kAt D cl (tys1 u) (va_A ws sz) (ws1 u) t) (va_A ws sz)) mc ms (va_A ws sz)
def kYi (y : MethodName) (cc : ByteArray) (n k : Nat) : Prop := Cond.instanceMethod y ∈ kBw ∧ Cond.initialized y.cls ∈ kBw ∧ Cond.code y cc n none ∈ kBw ∧ y.cls ≠ "java/lang/invoke/MethodHandle" ∧ y.cls ≠ "java/lang/invoke/VarHandle" ∧ (parseMethodDescriptor y.desc).map (fun d => d.parameters.length) = some k ∧ y.name = "<init>"
section KI
variable {p : Program} {l : Launch} {e : Env} {R : Room} {s : State} {m : MethodId} {args : Array Value} {below : List Frame} {meth : Method} {c : Code} {H : Heap} {locs : List Loc} {cells slots : Nat} {Q : State → Prop}
variable {cc bytes : ByteArray} {pc n nL k fr lo mc ms index : Nat} {ls : Array Slot} {rest st0 : List Value} {D : va_G} {cl : List vw_C} {A : Nat → Prop} {tys tysC : List (ClassId × FieldType)} {ws wc wr : va_W} {own : String} {y : MethodName} {As : List Value} {b : Nat} {a : Array Value} {H0 : Heap}
theorem k_runI {Qc : Array Value → State → Outcome → State → Prop} {free : Addr → Prop} (S : CallFix p m c cc nL s args kBw own) (hy : kYi y bytes n k) (hlink : Cond.methodLink own index y ∈ kBw)
    (hM : Met l y (.code y bytes n none :: kBw) { frames := fr, cells := mc, slots := ms, locals := lo } (va_Pc (.ref b :: As) (kPre D cl tysC wc H.size)) Qc mc ms free)
    (hK : va_K D cl tysC s) (hN : kN s) (hP : va_P D cl wc H) (hD : va_D A wc) (hn : As.length = k) (hl : ls.size = nL) (hst : st0 = As.reverse ++ .ref b :: rest) (hr : (rest.map fun v => v.category).sum ≤ 8) (hR : fr + 1 ≤ R.frames ∧ 8 + (n + 11) + lo ≤ R.locals) (hdg : decode cc pc = .ok (.invokespecial index, 3)) (hf : cells + mc ≤ R.cells ∧ slots + ms ≤ R.slots) :
    va_Run p l e R s m args below meth c H locs cells slots mc ms (F0 m pc ls st0) rest (Qc (Value.ref b :: As).toArray) free := by
  obtain ⟨h1, h3, h4, h5, h6, h7, h8⟩ := hy
  have hts := S.2.2.2.2
  exact va_runI S hM ⟨callB_of k hts (k_goodIn h4) rfl rfl rfl (hts _ h3) (hts _ hlink) ⟨h5, h6, h7⟩ hR, h8, hts _ h1⟩ ⟨kPre.blind, fun U hU hW => ⟨rfl, by rw [hU], by rw [hU]; exact hP, va_K.moved hW.alike hK, hD.weaken (fun _ _ _ _ => trivial), hN.warm hW⟩⟩ rfl hn hl hst (lv_room hr) hdg hf
theorem k_runIN {host : String} {Qc : Array Value → State → Outcome → State → Prop} {free : Addr → Prop} (S : CallFix p m c cc nL s args kBw own) (hy : kYi y bytes n k) (hlink : Cond.methodLinkNest own index y host ∈ kNw)
    (hM : Met l y (.code y bytes n none :: kBw) { frames := fr, cells := mc, slots := ms, locals := lo } (va_Pc (.ref b :: As) (kPre D cl tysC wc H.size)) Qc mc ms free)
    (hK : va_K D cl tysC s) (hN : kN s) (hP : va_P D cl wc H) (hD : va_D A wc) (hn : As.length = k) (hl : ls.size = nL) (hst : st0 = As.reverse ++ .ref b :: rest) (hr : (rest.map fun v => v.category).sum ≤ 8) (hR : fr + 1 ≤ R.frames ∧ 8 + (n + 11) + lo ≤ R.locals) (hdg : decode cc pc = .ok (.invokespecial index, 3)) (hf : cells + mc ≤ R.cells ∧ slots + ms ≤ R.slots) :
    va_Run p l e R s m args below meth c H locs cells slots mc ms (F0 m pc ls st0) rest (Qc (Value.ref b :: As).toArray) free := by
  obtain ⟨h1, h3, h4, h5, h6, h7, h8⟩ := hy
  have hts := S.2.2.2.2
  exact va_runIN S hM ⟨va_cnB k hts (k_goodIn h4) rfl rfl rfl (hN _ hlink) (hts _ h3) ⟨h5, h6, h7⟩ hR, h8, hts _ h1⟩ ⟨kPre.blind, fun U hU hW => ⟨rfl, by rw [hU], by rw [hU]; exact hP, va_K.moved hW.alike hK, hD.weaken (fun _ _ _ _ => trivial), hN.warm hW⟩⟩ rfl hn hl hst (lv_room hr) hdg hf
theorem k_gon {S : Type} {tys1 : S → List (ClassId × FieldType)} {ws1 : S → va_W} (hK : va_K D cl tys s) (hP : va_P D cl ws H) (hD : va_D A ws) (hS : va_S A H0 H locs) (hA : ∀ q, H0.size ≤ q → A q) (isC isR : List Nat) (hC : isC.map (fun i => ws[i]?) = wc.map some) (hR : isR.map (fun i => ws[i]?) = wr.map some) (hpl : k_pl isC isR [] = true)
    (hr : va_P D cl wc H → va_D A wc → va_Run p l e R s m args below meth c H locs cells slots mc ms (F0 m pc ls st0) rest (va_Qv (fun (_ : S) => True) (fun u t => kAt D cl (tys1 u) (va_A wc H.size) (ws1 u) t) (va_A wc H.size) a) (va_A wc H.size))
    (kk : ∀ (u : S) (H1 : Heap) (locs1 : List Loc), va_K D cl (tys ++ tys1 u) s → va_P D cl (wr ++ ws1 u) H1 → va_D A (wr ++ ws1 u) → va_S A H0 H1 locs1 → W p l e R s m args below meth c H1 locs1 (cells + mc) (slots + ms) Q (F0 m (pc + 3) ls rest)) : W p l e R s m args below meth c H locs cells slots Q (F0 m pc ls st0) := by
  obtain ⟨hnC, hnR, hnJ, hdis⟩ := k_pl_spec hpl
  have hFc := va_free (wc := wc) hD hS hA isC hC
  refine va_callv (hr (k_subP hP hC) (hD.sub isC hnC hC)) hS (fun q _ h => hFc q h) hFc (fun u t H1 locs1 ht hvm hw hB hz1 hk1 hS1 => ?_)
  obtain ⟨hP1, hK1, hD1⟩ := hB
  rw [ht] at hP1
  obtain ⟨hP2, hD2⟩ := va_join hP hD isC isR hC hR hnR hdis hk1 hFc hP1 hD1
  exact kk u H1 locs1 (hK.app (va_K.moved hvm.symm hK1)) hP2 hD2 hS1
theorem k_cI {S0 : Type} {tys1 : S0 → List (ClassId × FieldType)} {ws1 : S0 → va_W} (S : CallFix p m c cc nL s args kBw own) (hM : kMn l y bytes n fr lo mc ms D cl tysC (.ref b :: As) wc tys1 ws1) (hy : kYi y bytes n k) (hlink : Cond.methodLink own index y ∈ kBw) (hK : va_K D cl tys s) (hN : kN s) (hP : va_P D cl ws H) (hD : va_D A ws) (hS : va_S A H0 H locs) (hA : ∀ q, H0.size ≤ q → A q) (isT isC isR : List Nat) (hT : isT.filterMap (fun i => tys[i]?) = tysC) (hC : isC.map (fun i => ws[i]?) = wc.map some) (hR : isR.map (fun i => ws[i]?) = wr.map some) (hpl : k_pl isC isR [] = true)
    (hn : As.length = k) (hl : ls.size = nL) (hst : st0 = As.reverse ++ .ref b :: rest) (hr : (rest.map fun v => v.category).sum ≤ 8) (hRm : fr + 1 ≤ R.frames ∧ 8 + (n + 11) + lo ≤ R.locals) (hdg : decode cc pc = .ok (.invokespecial index, 3)) (hf : cells + mc ≤ R.cells ∧ slots + ms ≤ R.slots)
    (kk : ∀ (u : S0) (H1 : Heap) (locs1 : List Loc), va_K D cl (tys ++ tys1 u) s → va_P D cl (wr ++ ws1 u) H1 → va_D A (wr ++ ws1 u) → va_S A H0 H1 locs1 → W p l e R s m args below meth c H1 locs1 (cells + mc) (slots + ms) Q (F0 m (pc + 3) ls rest)) : W p l e R s m args below meth c H locs cells slots Q (F0 m pc ls st0) :=
  k_gon hK hP hD hS hA isC isR hC hR hpl (fun hP9 hD9 => k_runI S hy hlink (hM H.size) (hK.sub isT hT) hN hP9 hD9 hn hl hst hr hRm hdg hf) kk
theorem k_cIN {host : String} {S0 : Type} {tys1 : S0 → List (ClassId × FieldType)} {ws1 : S0 → va_W} (S : CallFix p m c cc nL s args kBw own) (hM : kMn l y bytes n fr lo mc ms D cl tysC (.ref b :: As) wc tys1 ws1) (hy : kYi y bytes n k) (hlink : Cond.methodLinkNest own index y host ∈ kNw) (hK : va_K D cl tys s) (hN : kN s) (hP : va_P D cl ws H) (hD : va_D A ws) (hS : va_S A H0 H locs) (hA : ∀ q, H0.size ≤ q → A q) (isT isC isR : List Nat) (hT : isT.filterMap (fun i => tys[i]?) = tysC) (hC : isC.map (fun i => ws[i]?) = wc.map some) (hR : isR.map (fun i => ws[i]?) = wr.map some) (hpl : k_pl isC isR [] = true)
    (hn : As.length = k) (hl : ls.size = nL) (hst : st0 = As.reverse ++ .ref b :: rest) (hr : (rest.map fun v => v.category).sum ≤ 8) (hRm : fr + 1 ≤ R.frames ∧ 8 + (n + 11) + lo ≤ R.locals) (hdg : decode cc pc = .ok (.invokespecial index, 3)) (hf : cells + mc ≤ R.cells ∧ slots + ms ≤ R.slots)
    (kk : ∀ (u : S0) (H1 : Heap) (locs1 : List Loc), va_K D cl (tys ++ tys1 u) s → va_P D cl (wr ++ ws1 u) H1 → va_D A (wr ++ ws1 u) → va_S A H0 H1 locs1 → W p l e R s m args below meth c H1 locs1 (cells + mc) (slots + ms) Q (F0 m (pc + 3) ls rest)) : W p l e R s m args below meth c H locs cells slots Q (F0 m pc ls st0) :=
  k_gon hK hP hD hS hA isC isR hC hR hpl (fun hP9 hD9 => k_runIN S hy hlink (hM H.size) (hK.sub isT hT) hN hP9 hD9 hn hl hst hr hRm hdg hf) kk
theorem k_vretn {S : Type} {tys1 : S → List (ClassId × FieldType)} {ws1 : S → va_W} (u : S) (hx : p.tables.exec = Jvm.exec) (hb : c.code = cc) (hr : meth.sig.returnType = none) (hlocks : meth.locks = false) (hK : va_K D cl tys s) (hP : va_P D cl ws H) (hD : va_D A ws) (hS : va_S A s.heap H locs) (isT isJ : List Nat) (hT : isT.filterMap (fun i => tys[i]?) = tys1 u) (hnJ : va_nd isJ = true) (hJ : isJ.map (fun i => ws[i]?) = (ws1 u).map some) (hdg : decode cc pc = .ok (.return_, 1)) : W p l e R s m args below meth c H locs cells slots (MQ below (va_Qv (fun (_ : S) => True) (fun u t => kAt D cl (tys1 u) A (ws1 u) t) A) args s cells slots A) (F0 m pc ls []) :=
  W.vret hx hb hr (fun t ht hW => ⟨⟨u, rfl, trivial, by rw [ht]; exact k_subP hP hJ, va_K.moved hW.alike (hK.sub isT hT), hD.sub isJ hnJ hJ⟩, hS.F ht⟩) hS.2.2 hdg hlocks
end KI
theorem zw_1 : (Jvm.Cond.initialized "MappedProcessor") ∈ kBw := kb_in (kt1 (List.mem_of_getElem? (i := 1) rfl)) rfl
theorem zw_2 : (Jvm.Cond.initialized "MappedProcessor$Memory") ∈ kBw := kb_in (kt1 (List.mem_of_getElem? (i := 2) rfl)) rfl
theorem zw_3 : (Jvm.Cond.initialized "MappedProcessor$State") ∈ kBw := kb_in (kt1 (List.mem_of_getElem? (i := 3) rfl)) rfl
theorem zw_4 : (Jvm.Cond.initialized "MappedProcessor$Mapper") ∈ kBw := kb_in (kt1 (List.mem_of_getElem? (i := 4) rfl)) rfl
theorem zw_5 : (Jvm.Cond.initialized "MappedProcessor$Instruction") ∈ kBw := kb_in (kt1 (List.mem_of_getElem? (i := 5) rfl)) rfl
theorem zw_6 : (Jvm.Cond.initialized "MappedProcessor$Comparisons") ∈ kBw := kb_in (kt1 (List.mem_of_getElem? (i := 6) rfl)) rfl
theorem zw_7 : (Jvm.Cond.initialized "MappedProcessor$Arithmetic") ∈ kBw := kb_in (kt1 (List.mem_of_getElem? (i := 7) rfl)) rfl
theorem zw_8 : (Jvm.Cond.initialized "MappedProcessor$Logic") ∈ kBw := kb_in (kt1 (List.mem_of_getElem? (i := 8) rfl)) rfl
theorem zw_9 : (Jvm.Cond.initialized "MappedProcessor$Branches") ∈ kBw := kb_in (kt1 (List.mem_of_getElem? (i := 9) rfl)) rfl
theorem zw_10 : (Jvm.Cond.initialized "MappedProcessor$Control") ∈ kBw := kb_in (kt1 (List.mem_of_getElem? (i := 10) rfl)) rfl
theorem zw_11 : (Jvm.Cond.initialized "MappedProcessor$Accesses") ∈ kBw := kb_in (kt1 (List.mem_of_getElem? (i := 11) rfl)) rfl
theorem zw_12 : (Jvm.Cond.initialized "MappedProcessorModel") ∈ kBw := kb_in (kt1 (List.mem_of_getElem? (i := 12) rfl)) rfl
theorem zw_17 : (Jvm.Cond.instanceMethod ({ cls := "MappedProcessor", name := "<init>", desc := "()V" } : Jvm.MethodName)) ∈ kBw := kb_in (kt1 (List.mem_of_getElem? (i := 17) rfl)) rfl
theorem zw_18 : (Jvm.Cond.code ({ cls := "MappedProcessor", name := "<init>", desc := "()V" } : Jvm.MethodName) prog_1_method_1_code (1 : Nat) (Option.none : Option Jvm.ClassFile.FieldType)) ∈ kBw := kb_in (kt1 (List.mem_of_getElem? (i := 18) rfl)) rfl
theorem zw_19 : (Jvm.Cond.methodLink "MappedProcessor" (1 : Nat) ({ cls := "java/lang/Object", name := "<init>", desc := "()V" } : Jvm.MethodName)) ∈ kBw := kb_in (kt1 (List.mem_of_getElem? (i := 19) rfl)) rfl
theorem zw_20 : (Jvm.Cond.instanceMethod ({ cls := "java/lang/Object", name := "<init>", desc := "()V" } : Jvm.MethodName)) ∈ kBw := kb_in (kt1 (List.mem_of_getElem? (i := 20) rfl)) rfl
theorem zw_21 : (Jvm.Cond.code ({ cls := "java/lang/Object", name := "<init>", desc := "()V" } : Jvm.MethodName) object_method_1_code (1 : Nat) (Option.none : Option Jvm.ClassFile.FieldType)) ∈ kBw := kb_in (kt1 (List.mem_of_getElem? (i := 21) rfl)) rfl
theorem zw_22 : (Jvm.Cond.classLink "MappedProcessor" (7 : Nat) "MappedProcessor$Memory") ∈ kBw := kb_in (kt1 (List.mem_of_getElem? (i := 22) rfl)) rfl
theorem zw_23 : (Jvm.Cond.instantiable "MappedProcessor$Memory" (1 : Nat)) ∈ kBw := kb_in (kt1 (List.mem_of_getElem? (i := 23) rfl)) rfl
theorem zw_24 : (Jvm.Cond.methodLink "MappedProcessor" (9 : Nat) ({ cls := "MappedProcessor$Memory", name := "<init>", desc := "()V" } : Jvm.MethodName)) ∈ kBw := kb_in (kt1 (List.mem_of_getElem? (i := 24) rfl)) rfl
theorem zw_25 : (Jvm.Cond.instanceMethod ({ cls := "MappedProcessor$Memory", name := "<init>", desc := "()V" } : Jvm.MethodName)) ∈ kBw := kb_in (kt1 (List.mem_of_getElem? (i := 25) rfl)) rfl
theorem zw_26 : (Jvm.Cond.code ({ cls := "MappedProcessor$Memory", name := "<init>", desc := "()V" } : Jvm.MethodName) prog_10_method_1_code (1 : Nat) (Option.none : Option Jvm.ClassFile.FieldType)) ∈ kBw := kb_in (kt1 (List.mem_of_getElem? (i := 26) rfl)) rfl
theorem zw_27 : (Jvm.Cond.methodLink "MappedProcessor$Memory" (3 : Nat) ({ cls := "java/lang/Object", name := "<init>", desc := "()V" } : Jvm.MethodName)) ∈ kBw := kb_in (kt1 (List.mem_of_getElem? (i := 27) rfl)) rfl
theorem zw_28 : (Jvm.Cond.fieldLink "MappedProcessor$Memory" (9 : Nat) "MappedProcessor$Memory" "words" "[I") ∈ kBw := kb_in (kt1 (List.mem_of_getElem? (i := 28) rfl)) rfl
theorem zw_32 : (Jvm.Cond.arrayClass Jvm.ClassFile.FieldType.int) ∈ kBw := kb_in (kt1 (List.mem_of_getElem? (i := 32) rfl)) rfl
theorem zw_33 : (Jvm.Cond.classLink "MappedProcessor" (16 : Nat) "MappedProcessor$State") ∈ kBw := kb_in (kt1 (List.mem_of_getElem? (i := 33) rfl)) rfl
theorem zw_34 : (Jvm.Cond.instantiable "MappedProcessor$State" (6 : Nat)) ∈ kBw := kb_in (kt1 (List.mem_of_getElem? (i := 34) rfl)) rfl
theorem zw_35 : (Jvm.Cond.methodLink "MappedProcessor" (18 : Nat) ({ cls := "MappedProcessor$State", name := "<init>", desc := "()V" } : Jvm.MethodName)) ∈ kBw := kb_in (kt1 (List.mem_of_getElem? (i := 35) rfl)) rfl
theorem zw_36 : (Jvm.Cond.instanceMethod ({ cls := "MappedProcessor$State", name := "<init>", desc := "()V" } : Jvm.MethodName)) ∈ kBw := kb_in (kt1 (List.mem_of_getElem? (i := 36) rfl)) rfl
theorem zw_37 : (Jvm.Cond.code ({ cls := "MappedProcessor$State", name := "<init>", desc := "()V" } : Jvm.MethodName) prog_11_method_1_code (1 : Nat) (Option.none : Option Jvm.ClassFile.FieldType)) ∈ kBw := kb_in (kt1 (List.mem_of_getElem? (i := 37) rfl)) rfl
theorem zw_38 : (Jvm.Cond.methodLink "MappedProcessor$State" (3 : Nat) ({ cls := "java/lang/Object", name := "<init>", desc := "()V" } : Jvm.MethodName)) ∈ kBw := kb_in (kt1 (List.mem_of_getElem? (i := 38) rfl)) rfl
theorem zw_39 : (Jvm.Cond.fieldLink "MappedProcessor$State" (9 : Nat) "MappedProcessor$State" "generals" "[I") ∈ kBw := kb_in (kt1 (List.mem_of_getElem? (i := 39) rfl)) rfl
theorem zw_40 : (Jvm.Cond.fieldLink "MappedProcessor$State" (15 : Nat) "MappedProcessor$State" "specials" "[I") ∈ kBw := kb_in (kt1 (List.mem_of_getElem? (i := 40) rfl)) rfl
theorem zw_58 : (Jvm.Cond.classLink "MappedProcessor" (23 : Nat) "MappedProcessor$Mapper") ∈ kBw := kb_in (kt1 (List.mem_of_getElem? (i := 58) rfl)) rfl
theorem zw_59 : (Jvm.Cond.instantiable "MappedProcessor$Mapper" (3 : Nat)) ∈ kBw := kb_in (kt1 (List.mem_of_getElem? (i := 59) rfl)) rfl
theorem zw_60 : (Jvm.Cond.methodLink "MappedProcessor" (25 : Nat) ({ cls := "MappedProcessor$Mapper", name := "<init>", desc := "(LMappedProcessor$Memory;LMappedProcessor$State;)V" } : Jvm.MethodName)) ∈ kBw := kb_in (kt1 (List.mem_of_getElem? (i := 60) rfl)) rfl
theorem zw_61 : (Jvm.Cond.instanceMethod ({ cls := "MappedProcessor$Mapper", name := "<init>", desc := "(LMappedProcessor$Memory;LMappedProcessor$State;)V" } : Jvm.MethodName)) ∈ kBw := kb_in (kt1 (List.mem_of_getElem? (i := 61) rfl)) rfl
theorem zw_62 : (Jvm.Cond.code ({ cls := "MappedProcessor$Mapper", name := "<init>", desc := "(LMappedProcessor$Memory;LMappedProcessor$State;)V" } : Jvm.MethodName) prog_9_method_1_code (3 : Nat) (Option.none : Option Jvm.ClassFile.FieldType)) ∈ kBw := kb_in (kt1 (List.mem_of_getElem? (i := 62) rfl)) rfl
theorem zw_63 : (Jvm.Cond.methodLink "MappedProcessor$Mapper" (3 : Nat) ({ cls := "java/lang/Object", name := "<init>", desc := "()V" } : Jvm.MethodName)) ∈ kBw := kb_in (kt1 (List.mem_of_getElem? (i := 63) rfl)) rfl
theorem zw_64 : (Jvm.Cond.fieldLink "MappedProcessor$Mapper" (9 : Nat) "MappedProcessor$Mapper" "memory" "LMappedProcessor$Memory;") ∈ kBw := kb_in (kt1 (List.mem_of_getElem? (i := 64) rfl)) rfl
theorem zw_65 : (Jvm.Cond.fieldLink "MappedProcessor$Mapper" (15 : Nat) "MappedProcessor$Mapper" "state" "LMappedProcessor$State;") ∈ kBw := kb_in (kt1 (List.mem_of_getElem? (i := 65) rfl)) rfl
theorem zw_66 : (Jvm.Cond.fieldLink "MappedProcessor$Mapper" (19 : Nat) "MappedProcessor$Mapper" "entry" "I") ∈ kBw := kb_in (kt1 (List.mem_of_getElem? (i := 66) rfl)) rfl
theorem zw_74 : (Jvm.Cond.classLink "MappedProcessor" (32 : Nat) "MappedProcessor$Instruction") ∈ kBw := kb_in (kt1 (List.mem_of_getElem? (i := 74) rfl)) rfl
theorem zw_75 : (Jvm.Cond.instantiable "MappedProcessor$Instruction" (8 : Nat)) ∈ kBw := kb_in (kt1 (List.mem_of_getElem? (i := 75) rfl)) rfl
theorem zw_77 : (Jvm.Cond.instanceMethod ({ cls := "MappedProcessor$Instruction", name := "<init>", desc := "()V" } : Jvm.MethodName)) ∈ kBw := kb_in (kt1 (List.mem_of_getElem? (i := 77) rfl)) rfl
theorem zw_78 : (Jvm.Cond.code ({ cls := "MappedProcessor$Instruction", name := "<init>", desc := "()V" } : Jvm.MethodName) prog_7_method_1_code (1 : Nat) (Option.none : Option Jvm.ClassFile.FieldType)) ∈ kBw := kb_in (kt1 (List.mem_of_getElem? (i := 78) rfl)) rfl
theorem zw_79 : (Jvm.Cond.methodLink "MappedProcessor$Instruction" (3 : Nat) ({ cls := "java/lang/Object", name := "<init>", desc := "()V" } : Jvm.MethodName)) ∈ kBw := kb_in (kt1 (List.mem_of_getElem? (i := 79) rfl)) rfl
theorem zw_143 : (Jvm.Cond.classLink "MappedProcessor" (39 : Nat) "MappedProcessor$Comparisons") ∈ kBw := kb_in (kt1 (List.mem_of_getElem? (i := 143) rfl)) rfl
theorem zw_144 : (Jvm.Cond.instantiable "MappedProcessor$Comparisons" (1 : Nat)) ∈ kBw := kb_in (kt1 (List.mem_of_getElem? (i := 144) rfl)) rfl
theorem zw_145 : (Jvm.Cond.methodLink "MappedProcessor" (41 : Nat) ({ cls := "MappedProcessor$Comparisons", name := "<init>", desc := "(LMappedProcessor$State;)V" } : Jvm.MethodName)) ∈ kBw := kb_in (kt1 (List.mem_of_getElem? (i := 145) rfl)) rfl
theorem zw_146 : (Jvm.Cond.instanceMethod ({ cls := "MappedProcessor$Comparisons", name := "<init>", desc := "(LMappedProcessor$State;)V" } : Jvm.MethodName)) ∈ kBw := kb_in (kt1 (List.mem_of_getElem? (i := 146) rfl)) rfl
theorem zw_147 : (Jvm.Cond.code ({ cls := "MappedProcessor$Comparisons", name := "<init>", desc := "(LMappedProcessor$State;)V" } : Jvm.MethodName) prog_5_method_1_code (2 : Nat) (Option.none : Option Jvm.ClassFile.FieldType)) ∈ kBw := kb_in (kt1 (List.mem_of_getElem? (i := 147) rfl)) rfl
theorem zw_148 : (Jvm.Cond.methodLink "MappedProcessor$Comparisons" (3 : Nat) ({ cls := "java/lang/Object", name := "<init>", desc := "()V" } : Jvm.MethodName)) ∈ kBw := kb_in (kt1 (List.mem_of_getElem? (i := 148) rfl)) rfl
theorem zw_149 : (Jvm.Cond.fieldLink "MappedProcessor$Comparisons" (9 : Nat) "MappedProcessor$Comparisons" "state" "LMappedProcessor$State;") ∈ kBw := kb_in (kt1 (List.mem_of_getElem? (i := 149) rfl)) rfl
theorem zw_153 : (Jvm.Cond.classLink "MappedProcessor" (48 : Nat) "MappedProcessor$Arithmetic") ∈ kBw := kb_in (kt1 (List.mem_of_getElem? (i := 153) rfl)) rfl
theorem zw_154 : (Jvm.Cond.instantiable "MappedProcessor$Arithmetic" (1 : Nat)) ∈ kBw := kb_in (kt1 (List.mem_of_getElem? (i := 154) rfl)) rfl
theorem zw_155 : (Jvm.Cond.methodLink "MappedProcessor" (50 : Nat) ({ cls := "MappedProcessor$Arithmetic", name := "<init>", desc := "(LMappedProcessor$State;)V" } : Jvm.MethodName)) ∈ kBw := kb_in (kt1 (List.mem_of_getElem? (i := 155) rfl)) rfl
theorem zw_156 : (Jvm.Cond.instanceMethod ({ cls := "MappedProcessor$Arithmetic", name := "<init>", desc := "(LMappedProcessor$State;)V" } : Jvm.MethodName)) ∈ kBw := kb_in (kt1 (List.mem_of_getElem? (i := 156) rfl)) rfl
theorem zw_157 : (Jvm.Cond.code ({ cls := "MappedProcessor$Arithmetic", name := "<init>", desc := "(LMappedProcessor$State;)V" } : Jvm.MethodName) prog_3_method_1_code (2 : Nat) (Option.none : Option Jvm.ClassFile.FieldType)) ∈ kBw := kb_in (kt1 (List.mem_of_getElem? (i := 157) rfl)) rfl
theorem zw_158 : (Jvm.Cond.methodLink "MappedProcessor$Arithmetic" (1 : Nat) ({ cls := "java/lang/Object", name := "<init>", desc := "()V" } : Jvm.MethodName)) ∈ kBw := kb_in (kt1 (List.mem_of_getElem? (i := 158) rfl)) rfl
theorem zw_159 : (Jvm.Cond.fieldLink "MappedProcessor$Arithmetic" (7 : Nat) "MappedProcessor$Arithmetic" "state" "LMappedProcessor$State;") ∈ kBw := kb_in (kt1 (List.mem_of_getElem? (i := 159) rfl)) rfl
theorem zw_163 : (Jvm.Cond.classLink "MappedProcessor" (55 : Nat) "MappedProcessor$Logic") ∈ kBw := kb_in (kt1 (List.mem_of_getElem? (i := 163) rfl)) rfl
theorem zw_164 : (Jvm.Cond.instantiable "MappedProcessor$Logic" (1 : Nat)) ∈ kBw := kb_in (kt1 (List.mem_of_getElem? (i := 164) rfl)) rfl
theorem zw_165 : (Jvm.Cond.methodLink "MappedProcessor" (57 : Nat) ({ cls := "MappedProcessor$Logic", name := "<init>", desc := "(LMappedProcessor$State;)V" } : Jvm.MethodName)) ∈ kBw := kb_in (kt1 (List.mem_of_getElem? (i := 165) rfl)) rfl
theorem zw_166 : (Jvm.Cond.instanceMethod ({ cls := "MappedProcessor$Logic", name := "<init>", desc := "(LMappedProcessor$State;)V" } : Jvm.MethodName)) ∈ kBw := kb_in (kt1 (List.mem_of_getElem? (i := 166) rfl)) rfl
theorem zw_167 : (Jvm.Cond.code ({ cls := "MappedProcessor$Logic", name := "<init>", desc := "(LMappedProcessor$State;)V" } : Jvm.MethodName) prog_8_method_1_code (2 : Nat) (Option.none : Option Jvm.ClassFile.FieldType)) ∈ kBw := kb_in (kt1 (List.mem_of_getElem? (i := 167) rfl)) rfl
theorem zw_168 : (Jvm.Cond.methodLink "MappedProcessor$Logic" (1 : Nat) ({ cls := "java/lang/Object", name := "<init>", desc := "()V" } : Jvm.MethodName)) ∈ kBw := kb_in (kt1 (List.mem_of_getElem? (i := 168) rfl)) rfl
theorem zw_169 : (Jvm.Cond.fieldLink "MappedProcessor$Logic" (7 : Nat) "MappedProcessor$Logic" "state" "LMappedProcessor$State;") ∈ kBw := kb_in (kt1 (List.mem_of_getElem? (i := 169) rfl)) rfl
theorem zw_173 : (Jvm.Cond.classLink "MappedProcessor" (62 : Nat) "MappedProcessor$Branches") ∈ kBw := kb_in (kt1 (List.mem_of_getElem? (i := 173) rfl)) rfl
theorem zw_174 : (Jvm.Cond.instantiable "MappedProcessor$Branches" (1 : Nat)) ∈ kBw := kb_in (kt1 (List.mem_of_getElem? (i := 174) rfl)) rfl
theorem zw_175 : (Jvm.Cond.methodLink "MappedProcessor" (64 : Nat) ({ cls := "MappedProcessor$Branches", name := "<init>", desc := "(LMappedProcessor$State;)V" } : Jvm.MethodName)) ∈ kBw := kb_in (kt1 (List.mem_of_getElem? (i := 175) rfl)) rfl
theorem zw_176 : (Jvm.Cond.instanceMethod ({ cls := "MappedProcessor$Branches", name := "<init>", desc := "(LMappedProcessor$State;)V" } : Jvm.MethodName)) ∈ kBw := kb_in (kt1 (List.mem_of_getElem? (i := 176) rfl)) rfl
theorem zw_177 : (Jvm.Cond.code ({ cls := "MappedProcessor$Branches", name := "<init>", desc := "(LMappedProcessor$State;)V" } : Jvm.MethodName) prog_4_method_1_code (2 : Nat) (Option.none : Option Jvm.ClassFile.FieldType)) ∈ kBw := kb_in (kt1 (List.mem_of_getElem? (i := 177) rfl)) rfl
theorem zw_178 : (Jvm.Cond.methodLink "MappedProcessor$Branches" (3 : Nat) ({ cls := "java/lang/Object", name := "<init>", desc := "()V" } : Jvm.MethodName)) ∈ kBw := kb_in (kt1 (List.mem_of_getElem? (i := 178) rfl)) rfl
theorem zw_179 : (Jvm.Cond.fieldLink "MappedProcessor$Branches" (9 : Nat) "MappedProcessor$Branches" "state" "LMappedProcessor$State;") ∈ kBw := kb_in (kt1 (List.mem_of_getElem? (i := 179) rfl)) rfl
theorem zw_183 : (Jvm.Cond.classLink "MappedProcessor" (69 : Nat) "MappedProcessor$Control") ∈ kBw := kb_in (kt1 (List.mem_of_getElem? (i := 183) rfl)) rfl
theorem zw_184 : (Jvm.Cond.instantiable "MappedProcessor$Control" (1 : Nat)) ∈ kBw := kb_in (kt1 (List.mem_of_getElem? (i := 184) rfl)) rfl
theorem zw_185 : (Jvm.Cond.methodLink "MappedProcessor" (71 : Nat) ({ cls := "MappedProcessor$Control", name := "<init>", desc := "(LMappedProcessor$State;)V" } : Jvm.MethodName)) ∈ kBw := kb_in (kt1 (List.mem_of_getElem? (i := 185) rfl)) rfl
theorem zw_186 : (Jvm.Cond.instanceMethod ({ cls := "MappedProcessor$Control", name := "<init>", desc := "(LMappedProcessor$State;)V" } : Jvm.MethodName)) ∈ kBw := kb_in (kt1 (List.mem_of_getElem? (i := 186) rfl)) rfl
theorem zw_187 : (Jvm.Cond.code ({ cls := "MappedProcessor$Control", name := "<init>", desc := "(LMappedProcessor$State;)V" } : Jvm.MethodName) prog_6_method_1_code (2 : Nat) (Option.none : Option Jvm.ClassFile.FieldType)) ∈ kBw := kb_in (kt1 (List.mem_of_getElem? (i := 187) rfl)) rfl
theorem zw_188 : (Jvm.Cond.methodLink "MappedProcessor$Control" (3 : Nat) ({ cls := "java/lang/Object", name := "<init>", desc := "()V" } : Jvm.MethodName)) ∈ kBw := kb_in (kt1 (List.mem_of_getElem? (i := 188) rfl)) rfl
theorem zw_189 : (Jvm.Cond.fieldLink "MappedProcessor$Control" (9 : Nat) "MappedProcessor$Control" "state" "LMappedProcessor$State;") ∈ kBw := kb_in (kt1 (List.mem_of_getElem? (i := 189) rfl)) rfl
theorem zw_193 : (Jvm.Cond.classLink "MappedProcessor" (76 : Nat) "MappedProcessor$Accesses") ∈ kBw := kb_in (kt1 (List.mem_of_getElem? (i := 193) rfl)) rfl
theorem zw_194 : (Jvm.Cond.instantiable "MappedProcessor$Accesses" (3 : Nat)) ∈ kBw := kb_in (kt1 (List.mem_of_getElem? (i := 194) rfl)) rfl
theorem zw_195 : (Jvm.Cond.methodLink "MappedProcessor" (78 : Nat) ({ cls := "MappedProcessor$Accesses", name := "<init>", desc := "(LMappedProcessor$Memory;LMappedProcessor$State;LMappedProcessor$Mapper;)V" } : Jvm.MethodName)) ∈ kBw := kb_in (kt1 (List.mem_of_getElem? (i := 195) rfl)) rfl
theorem zw_196 : (Jvm.Cond.instanceMethod ({ cls := "MappedProcessor$Accesses", name := "<init>", desc := "(LMappedProcessor$Memory;LMappedProcessor$State;LMappedProcessor$Mapper;)V" } : Jvm.MethodName)) ∈ kBw := kb_in (kt1 (List.mem_of_getElem? (i := 196) rfl)) rfl
theorem zw_197 : (Jvm.Cond.code ({ cls := "MappedProcessor$Accesses", name := "<init>", desc := "(LMappedProcessor$Memory;LMappedProcessor$State;LMappedProcessor$Mapper;)V" } : Jvm.MethodName) prog_2_method_1_code (4 : Nat) (Option.none : Option Jvm.ClassFile.FieldType)) ∈ kBw := kb_in (kt1 (List.mem_of_getElem? (i := 197) rfl)) rfl
theorem zw_198 : (Jvm.Cond.methodLink "MappedProcessor$Accesses" (3 : Nat) ({ cls := "java/lang/Object", name := "<init>", desc := "()V" } : Jvm.MethodName)) ∈ kBw := kb_in (kt1 (List.mem_of_getElem? (i := 198) rfl)) rfl
theorem zw_199 : (Jvm.Cond.fieldLink "MappedProcessor$Accesses" (9 : Nat) "MappedProcessor$Accesses" "memory" "LMappedProcessor$Memory;") ∈ kBw := kb_in (kt1 (List.mem_of_getElem? (i := 199) rfl)) rfl
theorem zw_200 : (Jvm.Cond.fieldLink "MappedProcessor$Accesses" (15 : Nat) "MappedProcessor$Accesses" "state" "LMappedProcessor$State;") ∈ kBw := kb_in (kt1 (List.mem_of_getElem? (i := 200) rfl)) rfl
theorem zw_201 : (Jvm.Cond.fieldLink "MappedProcessor$Accesses" (19 : Nat) "MappedProcessor$Accesses" "mapper" "LMappedProcessor$Mapper;") ∈ kBw := kb_in (kt1 (List.mem_of_getElem? (i := 201) rfl)) rfl
theorem zw_209 : (Jvm.Cond.fieldLink "MappedProcessor" (10 : Nat) "MappedProcessor" "memory" "LMappedProcessor$Memory;") ∈ kBw := kb_in (kt1 (List.mem_of_getElem? (i := 209) rfl)) rfl
theorem zw_210 : (Jvm.Cond.fieldLink "MappedProcessor" (19 : Nat) "MappedProcessor" "state" "LMappedProcessor$State;") ∈ kBw := kb_in (kt1 (List.mem_of_getElem? (i := 210) rfl)) rfl
theorem zw_211 : (Jvm.Cond.fieldLink "MappedProcessor" (28 : Nat) "MappedProcessor" "mapper" "LMappedProcessor$Mapper;") ∈ kBw := kb_in (kt1 (List.mem_of_getElem? (i := 211) rfl)) rfl
theorem zw_212 : (Jvm.Cond.fieldLink "MappedProcessor" (35 : Nat) "MappedProcessor" "instruction" "LMappedProcessor$Instruction;") ∈ kBw := kb_in (kt1 (List.mem_of_getElem? (i := 212) rfl)) rfl
theorem zw_213 : (Jvm.Cond.fieldLink "MappedProcessor" (44 : Nat) "MappedProcessor" "comparisons" "LMappedProcessor$Comparisons;") ∈ kBw := kb_in (kt1 (List.mem_of_getElem? (i := 213) rfl)) rfl
theorem zw_214 : (Jvm.Cond.fieldLink "MappedProcessor" (51 : Nat) "MappedProcessor" "arithmetic" "LMappedProcessor$Arithmetic;") ∈ kBw := kb_in (kt1 (List.mem_of_getElem? (i := 214) rfl)) rfl
theorem zw_215 : (Jvm.Cond.fieldLink "MappedProcessor" (58 : Nat) "MappedProcessor" "logic" "LMappedProcessor$Logic;") ∈ kBw := kb_in (kt1 (List.mem_of_getElem? (i := 215) rfl)) rfl
theorem zw_216 : (Jvm.Cond.fieldLink "MappedProcessor" (65 : Nat) "MappedProcessor" "branches" "LMappedProcessor$Branches;") ∈ kBw := kb_in (kt1 (List.mem_of_getElem? (i := 216) rfl)) rfl
theorem zw_217 : (Jvm.Cond.fieldLink "MappedProcessor" (72 : Nat) "MappedProcessor" "control" "LMappedProcessor$Control;") ∈ kBw := kb_in (kt1 (List.mem_of_getElem? (i := 217) rfl)) rfl
theorem zw_218 : (Jvm.Cond.fieldLink "MappedProcessor" (81 : Nat) "MappedProcessor" "accesses" "LMappedProcessor$Accesses;") ∈ kBw := kb_in (kt1 (List.mem_of_getElem? (i := 218) rfl)) rfl
theorem zw_640 : (Jvm.Cond.instanceMethod ({ cls := "MappedProcessorModel", name := "<init>", desc := "()V" } : Jvm.MethodName)) ∈ kBw := kb_in (kt3 (List.mem_of_getElem? (i := 160) rfl)) rfl
theorem zw_641 : (Jvm.Cond.code ({ cls := "MappedProcessorModel", name := "<init>", desc := "()V" } : Jvm.MethodName) prog_13_method_1_code (1 : Nat) (Option.none : Option Jvm.ClassFile.FieldType)) ∈ kBw := kb_in (kt3 (List.mem_of_getElem? (i := 161) rfl)) rfl
theorem zw_642 : (Jvm.Cond.methodLink "MappedProcessorModel" (1 : Nat) ({ cls := "java/lang/Object", name := "<init>", desc := "()V" } : Jvm.MethodName)) ∈ kBw := kb_in (kt3 (List.mem_of_getElem? (i := 162) rfl)) rfl
theorem zw_643 : (Jvm.Cond.fieldLink "MappedProcessorModel" (7 : Nat) "MappedProcessorModel" "g" "[I") ∈ kBw := kb_in (kt3 (List.mem_of_getElem? (i := 163) rfl)) rfl
theorem zw_644 : (Jvm.Cond.fieldLink "MappedProcessorModel" (13 : Nat) "MappedProcessorModel" "sp" "[I") ∈ kBw := kb_in (kt3 (List.mem_of_getElem? (i := 164) rfl)) rfl
theorem zw_645 : (Jvm.Cond.fieldLink "MappedProcessorModel" (16 : Nat) "MappedProcessorModel" "memory" "[I") ∈ kBw := kb_in (kt3 (List.mem_of_getElem? (i := 165) rfl)) rfl
theorem zw_oc : Cond.code Lib.objectInit ⟨#[0xb1]⟩ 1 none ∈ kBw := zw_21
/-! MappedProcessor$Comparisons() -/
def y_Cmp_init : MethodName := ⟨"MappedProcessor$Comparisons", "<init>", "(LMappedProcessor$State;)V"⟩
abbrev b_Cmp_init : ByteArray := prog_5_method_1_code
theorem yl_Cmp_init : kYi y_Cmp_init b_Cmp_init 2 1 := ⟨zw_146, zw_6, zw_147, by decide, by decide, by decide +kernel, rfl⟩
theorem d_Cmp_init_0 : decode b_Cmp_init 0 = .ok (.aload_n 0, 1) := by decide +kernel
theorem d_Cmp_init_1 : decode b_Cmp_init 1 = .ok (.invokespecial 3, 3) := by decide +kernel
theorem d_Cmp_init_4 : decode b_Cmp_init 4 = .ok (.aload_n 0, 1) := by decide +kernel
theorem d_Cmp_init_5 : decode b_Cmp_init 5 = .ok (.aload_n 1, 1) := by decide +kernel
theorem d_Cmp_init_6 : decode b_Cmp_init 6 = .ok (.putfield 9, 3) := by decide +kernel
theorem d_Cmp_init_9 : decode b_Cmp_init 9 = .ok (.return_, 1) := by decide +kernel
set_option maxHeartbeats 4000000 in
set_option maxRecDepth 100000 in
theorem c_Cmp_init (l : Launch) (D : va_G) (a aS : Nat) : kMn l y_Cmp_init b_Cmp_init 2 1 12 0 0 D kCl [] [.ref a, .ref aS] [(a, .inr (3, [.null]))] (fun (_ : Unit) => []) (fun (_ : Unit) => [(a, .inr (3, [.ref aS]))]) := by
  unfold kMn
  refine k_entry (y := y_Cmp_init) (av := [.ref a, .ref aS]) (n := 2) (Qc := fun A => va_Qv (fun (_ : Unit) => True) (fun u t => kAt D kCl ((fun (_ : Unit) => []) u) A ((fun (_ : Unit) => [(a, .inr (3, [.ref aS]))]) u) t) A) (lv := [(0, .ref a), (1, .ref aS)]) (by decide) (Nat.le_of_ble_eq_true rfl) rfl ?_
  intro p e s m below meth c A ls hx hb hr hml hB hown hlocks hin hA hK hN hP hD hS hl
  have hown : s.vm.findClass "MappedProcessor$Comparisons" = some m.cls := hown
  have hin : meth.name = "<init>" := hin
  refine lv_aload_n hx hb d_Cmp_init_0 rfl (lv_at hl 0 rfl) ?_
  refine W.objInit hx hb hown (hB _ zw_148) (hB _ zw_20) (hB _ zw_oc) rfl (by rw [hml]; exact hl.1) rfl d_Cmp_init_1 (Nat.le_of_ble_eq_true rfl) (Nat.le_of_ble_eq_true rfl) ?_
  refine W.eq (g2 := F0 m 4 ls []) rfl ?_
  refine lv_aload_n hx hb d_Cmp_init_4 rfl (lv_at hl 0 rfl) ?_
  refine lv_aload_n hx hb d_Cmp_init_5 rfl (lv_at hl 1 rfl) ?_
  refine va_putF (D := D) (ci := 3) (v := .ref aS) (ty := .object "MappedProcessor$State") (C := "MappedProcessor$Comparisons") (T := T_Cmp) (N := 1) hx hb hB iw_Cmp ty_Cmp ty_Cmp_ok nm_Cmp hown hK hP hD hS 0 rfl rfl 0 (by decide) (hB _ zw_149) (fun _ h9 => h9) rfl hin rfl (by decide +kernel) rfl rfl (Nat.le_of_ble_eq_true rfl) d_Cmp_init_6 (fun H locs hP hD hS => ?_)
  have hP : va_P D kCl [(a, .inr (3, [.ref aS]))] H := hP
  have hD : va_D A [(a, .inr (3, [.ref aS]))] := hD
  exact k_vretn (S := Unit) () hx hb hr hlocks hK hP hD hS [] [0] rfl rfl rfl d_Cmp_init_9
/-! MappedProcessor$Arithmetic() -/
def y_Ari_init : MethodName := ⟨"MappedProcessor$Arithmetic", "<init>", "(LMappedProcessor$State;)V"⟩
abbrev b_Ari_init : ByteArray := prog_3_method_1_code
theorem yl_Ari_init : kYi y_Ari_init b_Ari_init 2 1 := ⟨zw_156, zw_7, zw_157, by decide, by decide, by decide +kernel, rfl⟩
theorem d_Ari_init_0 : decode b_Ari_init 0 = .ok (.aload_n 0, 1) := by decide +kernel
theorem d_Ari_init_1 : decode b_Ari_init 1 = .ok (.invokespecial 1, 3) := by decide +kernel
theorem d_Ari_init_4 : decode b_Ari_init 4 = .ok (.aload_n 0, 1) := by decide +kernel
theorem d_Ari_init_5 : decode b_Ari_init 5 = .ok (.aload_n 1, 1) := by decide +kernel
theorem d_Ari_init_6 : decode b_Ari_init 6 = .ok (.putfield 7, 3) := by decide +kernel
theorem d_Ari_init_9 : decode b_Ari_init 9 = .ok (.return_, 1) := by decide +kernel
set_option maxHeartbeats 4000000 in
set_option maxRecDepth 100000 in
theorem c_Ari_init (l : Launch) (D : va_G) (a aS : Nat) : kMn l y_Ari_init b_Ari_init 2 1 12 0 0 D kCl [] [.ref a, .ref aS] [(a, .inr (1, [.null]))] (fun (_ : Unit) => []) (fun (_ : Unit) => [(a, .inr (1, [.ref aS]))]) := by
  unfold kMn
  refine k_entry (y := y_Ari_init) (av := [.ref a, .ref aS]) (n := 2) (Qc := fun A => va_Qv (fun (_ : Unit) => True) (fun u t => kAt D kCl ((fun (_ : Unit) => []) u) A ((fun (_ : Unit) => [(a, .inr (1, [.ref aS]))]) u) t) A) (lv := [(0, .ref a), (1, .ref aS)]) (by decide) (Nat.le_of_ble_eq_true rfl) rfl ?_
  intro p e s m below meth c A ls hx hb hr hml hB hown hlocks hin hA hK hN hP hD hS hl
  have hown : s.vm.findClass "MappedProcessor$Arithmetic" = some m.cls := hown
  have hin : meth.name = "<init>" := hin
  refine lv_aload_n hx hb d_Ari_init_0 rfl (lv_at hl 0 rfl) ?_
  refine W.objInit hx hb hown (hB _ zw_158) (hB _ zw_20) (hB _ zw_oc) rfl (by rw [hml]; exact hl.1) rfl d_Ari_init_1 (Nat.le_of_ble_eq_true rfl) (Nat.le_of_ble_eq_true rfl) ?_
  refine W.eq (g2 := F0 m 4 ls []) rfl ?_
  refine lv_aload_n hx hb d_Ari_init_4 rfl (lv_at hl 0 rfl) ?_
  refine lv_aload_n hx hb d_Ari_init_5 rfl (lv_at hl 1 rfl) ?_
  refine va_putF (D := D) (ci := 1) (v := .ref aS) (ty := .object "MappedProcessor$State") (C := "MappedProcessor$Arithmetic") (T := T_Ari) (N := 1) hx hb hB iw_Ari ty_Ari ty_Ari_ok nm_Ari hown hK hP hD hS 0 rfl rfl 0 (by decide) (hB _ zw_159) (fun _ h9 => h9) rfl hin rfl (by decide +kernel) rfl rfl (Nat.le_of_ble_eq_true rfl) d_Ari_init_6 (fun H locs hP hD hS => ?_)
  have hP : va_P D kCl [(a, .inr (1, [.ref aS]))] H := hP
  have hD : va_D A [(a, .inr (1, [.ref aS]))] := hD
  exact k_vretn (S := Unit) () hx hb hr hlocks hK hP hD hS [] [0] rfl rfl rfl d_Ari_init_9
/-! MappedProcessor$Logic() -/
def y_Log_init : MethodName := ⟨"MappedProcessor$Logic", "<init>", "(LMappedProcessor$State;)V"⟩
abbrev b_Log_init : ByteArray := prog_8_method_1_code
theorem yl_Log_init : kYi y_Log_init b_Log_init 2 1 := ⟨zw_166, zw_8, zw_167, by decide, by decide, by decide +kernel, rfl⟩
theorem d_Log_init_0 : decode b_Log_init 0 = .ok (.aload_n 0, 1) := by decide +kernel
theorem d_Log_init_1 : decode b_Log_init 1 = .ok (.invokespecial 1, 3) := by decide +kernel
theorem d_Log_init_4 : decode b_Log_init 4 = .ok (.aload_n 0, 1) := by decide +kernel
theorem d_Log_init_5 : decode b_Log_init 5 = .ok (.aload_n 1, 1) := by decide +kernel
theorem d_Log_init_6 : decode b_Log_init 6 = .ok (.putfield 7, 3) := by decide +kernel
theorem d_Log_init_9 : decode b_Log_init 9 = .ok (.return_, 1) := by decide +kernel
set_option maxHeartbeats 4000000 in
set_option maxRecDepth 100000 in
theorem c_Log_init (l : Launch) (D : va_G) (a aS : Nat) : kMn l y_Log_init b_Log_init 2 1 12 0 0 D kCl [] [.ref a, .ref aS] [(a, .inr (6, [.null]))] (fun (_ : Unit) => []) (fun (_ : Unit) => [(a, .inr (6, [.ref aS]))]) := by
  unfold kMn
  refine k_entry (y := y_Log_init) (av := [.ref a, .ref aS]) (n := 2) (Qc := fun A => va_Qv (fun (_ : Unit) => True) (fun u t => kAt D kCl ((fun (_ : Unit) => []) u) A ((fun (_ : Unit) => [(a, .inr (6, [.ref aS]))]) u) t) A) (lv := [(0, .ref a), (1, .ref aS)]) (by decide) (Nat.le_of_ble_eq_true rfl) rfl ?_
  intro p e s m below meth c A ls hx hb hr hml hB hown hlocks hin hA hK hN hP hD hS hl
  have hown : s.vm.findClass "MappedProcessor$Logic" = some m.cls := hown
  have hin : meth.name = "<init>" := hin
  refine lv_aload_n hx hb d_Log_init_0 rfl (lv_at hl 0 rfl) ?_
  refine W.objInit hx hb hown (hB _ zw_168) (hB _ zw_20) (hB _ zw_oc) rfl (by rw [hml]; exact hl.1) rfl d_Log_init_1 (Nat.le_of_ble_eq_true rfl) (Nat.le_of_ble_eq_true rfl) ?_
  refine W.eq (g2 := F0 m 4 ls []) rfl ?_
  refine lv_aload_n hx hb d_Log_init_4 rfl (lv_at hl 0 rfl) ?_
  refine lv_aload_n hx hb d_Log_init_5 rfl (lv_at hl 1 rfl) ?_
  refine va_putF (D := D) (ci := 6) (v := .ref aS) (ty := .object "MappedProcessor$State") (C := "MappedProcessor$Logic") (T := T_Log) (N := 1) hx hb hB iw_Log ty_Log ty_Log_ok nm_Log hown hK hP hD hS 0 rfl rfl 0 (by decide) (hB _ zw_169) (fun _ h9 => h9) rfl hin rfl (by decide +kernel) rfl rfl (Nat.le_of_ble_eq_true rfl) d_Log_init_6 (fun H locs hP hD hS => ?_)
  have hP : va_P D kCl [(a, .inr (6, [.ref aS]))] H := hP
  have hD : va_D A [(a, .inr (6, [.ref aS]))] := hD
  exact k_vretn (S := Unit) () hx hb hr hlocks hK hP hD hS [] [0] rfl rfl rfl d_Log_init_9
/-! MappedProcessor$Branches() -/
def y_Bra_init : MethodName := ⟨"MappedProcessor$Branches", "<init>", "(LMappedProcessor$State;)V"⟩
abbrev b_Bra_init : ByteArray := prog_4_method_1_code
theorem yl_Bra_init : kYi y_Bra_init b_Bra_init 2 1 := ⟨zw_176, zw_9, zw_177, by decide, by decide, by decide +kernel, rfl⟩
theorem d_Bra_init_0 : decode b_Bra_init 0 = .ok (.aload_n 0, 1) := by decide +kernel
theorem d_Bra_init_1 : decode b_Bra_init 1 = .ok (.invokespecial 3, 3) := by decide +kernel
theorem d_Bra_init_4 : decode b_Bra_init 4 = .ok (.aload_n 0, 1) := by decide +kernel
theorem d_Bra_init_5 : decode b_Bra_init 5 = .ok (.aload_n 1, 1) := by decide +kernel
theorem d_Bra_init_6 : decode b_Bra_init 6 = .ok (.putfield 9, 3) := by decide +kernel
theorem d_Bra_init_9 : decode b_Bra_init 9 = .ok (.return_, 1) := by decide +kernel
set_option maxHeartbeats 4000000 in
set_option maxRecDepth 100000 in
theorem c_Bra_init (l : Launch) (D : va_G) (a aS : Nat) : kMn l y_Bra_init b_Bra_init 2 1 12 0 0 D kCl [] [.ref a, .ref aS] [(a, .inr (2, [.null]))] (fun (_ : Unit) => []) (fun (_ : Unit) => [(a, .inr (2, [.ref aS]))]) := by
  unfold kMn
  refine k_entry (y := y_Bra_init) (av := [.ref a, .ref aS]) (n := 2) (Qc := fun A => va_Qv (fun (_ : Unit) => True) (fun u t => kAt D kCl ((fun (_ : Unit) => []) u) A ((fun (_ : Unit) => [(a, .inr (2, [.ref aS]))]) u) t) A) (lv := [(0, .ref a), (1, .ref aS)]) (by decide) (Nat.le_of_ble_eq_true rfl) rfl ?_
  intro p e s m below meth c A ls hx hb hr hml hB hown hlocks hin hA hK hN hP hD hS hl
  have hown : s.vm.findClass "MappedProcessor$Branches" = some m.cls := hown
  have hin : meth.name = "<init>" := hin
  refine lv_aload_n hx hb d_Bra_init_0 rfl (lv_at hl 0 rfl) ?_
  refine W.objInit hx hb hown (hB _ zw_178) (hB _ zw_20) (hB _ zw_oc) rfl (by rw [hml]; exact hl.1) rfl d_Bra_init_1 (Nat.le_of_ble_eq_true rfl) (Nat.le_of_ble_eq_true rfl) ?_
  refine W.eq (g2 := F0 m 4 ls []) rfl ?_
  refine lv_aload_n hx hb d_Bra_init_4 rfl (lv_at hl 0 rfl) ?_
  refine lv_aload_n hx hb d_Bra_init_5 rfl (lv_at hl 1 rfl) ?_
  refine va_putF (D := D) (ci := 2) (v := .ref aS) (ty := .object "MappedProcessor$State") (C := "MappedProcessor$Branches") (T := T_Bra) (N := 1) hx hb hB iw_Bra ty_Bra ty_Bra_ok nm_Bra hown hK hP hD hS 0 rfl rfl 0 (by decide) (hB _ zw_179) (fun _ h9 => h9) rfl hin rfl (by decide +kernel) rfl rfl (Nat.le_of_ble_eq_true rfl) d_Bra_init_6 (fun H locs hP hD hS => ?_)
  have hP : va_P D kCl [(a, .inr (2, [.ref aS]))] H := hP
  have hD : va_D A [(a, .inr (2, [.ref aS]))] := hD
  exact k_vretn (S := Unit) () hx hb hr hlocks hK hP hD hS [] [0] rfl rfl rfl d_Bra_init_9
/-! MappedProcessor$Control() -/
def y_Ctl_init : MethodName := ⟨"MappedProcessor$Control", "<init>", "(LMappedProcessor$State;)V"⟩
abbrev b_Ctl_init : ByteArray := prog_6_method_1_code
theorem yl_Ctl_init : kYi y_Ctl_init b_Ctl_init 2 1 := ⟨zw_186, zw_10, zw_187, by decide, by decide, by decide +kernel, rfl⟩
theorem d_Ctl_init_0 : decode b_Ctl_init 0 = .ok (.aload_n 0, 1) := by decide +kernel
theorem d_Ctl_init_1 : decode b_Ctl_init 1 = .ok (.invokespecial 3, 3) := by decide +kernel
theorem d_Ctl_init_4 : decode b_Ctl_init 4 = .ok (.aload_n 0, 1) := by decide +kernel
theorem d_Ctl_init_5 : decode b_Ctl_init 5 = .ok (.aload_n 1, 1) := by decide +kernel
theorem d_Ctl_init_6 : decode b_Ctl_init 6 = .ok (.putfield 9, 3) := by decide +kernel
theorem d_Ctl_init_9 : decode b_Ctl_init 9 = .ok (.return_, 1) := by decide +kernel
set_option maxHeartbeats 4000000 in
set_option maxRecDepth 100000 in
theorem c_Ctl_init (l : Launch) (D : va_G) (a aS : Nat) : kMn l y_Ctl_init b_Ctl_init 2 1 12 0 0 D kCl [] [.ref a, .ref aS] [(a, .inr (4, [.null]))] (fun (_ : Unit) => []) (fun (_ : Unit) => [(a, .inr (4, [.ref aS]))]) := by
  unfold kMn
  refine k_entry (y := y_Ctl_init) (av := [.ref a, .ref aS]) (n := 2) (Qc := fun A => va_Qv (fun (_ : Unit) => True) (fun u t => kAt D kCl ((fun (_ : Unit) => []) u) A ((fun (_ : Unit) => [(a, .inr (4, [.ref aS]))]) u) t) A) (lv := [(0, .ref a), (1, .ref aS)]) (by decide) (Nat.le_of_ble_eq_true rfl) rfl ?_
  intro p e s m below meth c A ls hx hb hr hml hB hown hlocks hin hA hK hN hP hD hS hl
  have hown : s.vm.findClass "MappedProcessor$Control" = some m.cls := hown
  have hin : meth.name = "<init>" := hin
  refine lv_aload_n hx hb d_Ctl_init_0 rfl (lv_at hl 0 rfl) ?_
  refine W.objInit hx hb hown (hB _ zw_188) (hB _ zw_20) (hB _ zw_oc) rfl (by rw [hml]; exact hl.1) rfl d_Ctl_init_1 (Nat.le_of_ble_eq_true rfl) (Nat.le_of_ble_eq_true rfl) ?_
  refine W.eq (g2 := F0 m 4 ls []) rfl ?_
  refine lv_aload_n hx hb d_Ctl_init_4 rfl (lv_at hl 0 rfl) ?_
  refine lv_aload_n hx hb d_Ctl_init_5 rfl (lv_at hl 1 rfl) ?_
  refine va_putF (D := D) (ci := 4) (v := .ref aS) (ty := .object "MappedProcessor$State") (C := "MappedProcessor$Control") (T := T_Ctl) (N := 1) hx hb hB iw_Ctl ty_Ctl ty_Ctl_ok nm_Ctl hown hK hP hD hS 0 rfl rfl 0 (by decide) (hB _ zw_189) (fun _ h9 => h9) rfl hin rfl (by decide +kernel) rfl rfl (Nat.le_of_ble_eq_true rfl) d_Ctl_init_6 (fun H locs hP hD hS => ?_)
  have hP : va_P D kCl [(a, .inr (4, [.ref aS]))] H := hP
  have hD : va_D A [(a, .inr (4, [.ref aS]))] := hD
  exact k_vretn (S := Unit) () hx hb hr hlocks hK hP hD hS [] [0] rfl rfl rfl d_Ctl_init_9
/-! MappedProcessor$Instruction() -/
def y_Ins_init : MethodName := ⟨"MappedProcessor$Instruction", "<init>", "()V"⟩
abbrev b_Ins_init : ByteArray := prog_7_method_1_code
theorem yl_Ins_init : kYi y_Ins_init b_Ins_init 1 0 := ⟨zw_77, zw_5, zw_78, by decide, by decide, by decide +kernel, rfl⟩
theorem d_Ins_init_0 : decode b_Ins_init 0 = .ok (.aload_n 0, 1) := by decide +kernel
theorem d_Ins_init_1 : decode b_Ins_init 1 = .ok (.invokespecial 3, 3) := by decide +kernel
theorem d_Ins_init_4 : decode b_Ins_init 4 = .ok (.return_, 1) := by decide +kernel
set_option maxHeartbeats 4000000 in
set_option maxRecDepth 100000 in
theorem c_Ins_init (l : Launch) (D : va_G) (a : Nat) : kMn l y_Ins_init b_Ins_init 1 1 12 0 0 D kCl [] [.ref a] [(a, .inr (5, [.int 0, .int 0, .int 0, .int 0, .int 0, .int 0, .int 0, .int 0]))] (fun (_ : Unit) => []) (fun (_ : Unit) => [(a, .inr (5, [.int 0, .int 0, .int 0, .int 0, .int 0, .int 0, .int 0, .int 0]))]) := by
  unfold kMn
  refine k_entry (y := y_Ins_init) (av := [.ref a]) (n := 1) (Qc := fun A => va_Qv (fun (_ : Unit) => True) (fun u t => kAt D kCl ((fun (_ : Unit) => []) u) A ((fun (_ : Unit) => [(a, .inr (5, [.int 0, .int 0, .int 0, .int 0, .int 0, .int 0, .int 0, .int 0]))]) u) t) A) (lv := [(0, .ref a)]) (by decide) (Nat.le_of_ble_eq_true rfl) rfl ?_
  intro p e s m below meth c A ls hx hb hr hml hB hown hlocks hin hA hK hN hP hD hS hl
  have hown : s.vm.findClass "MappedProcessor$Instruction" = some m.cls := hown
  have hin : meth.name = "<init>" := hin
  refine lv_aload_n hx hb d_Ins_init_0 rfl (lv_at hl 0 rfl) ?_
  refine W.objInit hx hb hown (hB _ zw_79) (hB _ zw_20) (hB _ zw_oc) rfl (by rw [hml]; exact hl.1) rfl d_Ins_init_1 (Nat.le_of_ble_eq_true rfl) (Nat.le_of_ble_eq_true rfl) ?_
  refine W.eq (g2 := F0 m 4 ls []) rfl ?_
  exact k_vretn (S := Unit) () hx hb hr hlocks hK hP hD hS [] [0] rfl rfl rfl d_Ins_init_4
/-! MappedProcessor$Mapper() -/
def y_Map_init : MethodName := ⟨"MappedProcessor$Mapper", "<init>", "(LMappedProcessor$Memory;LMappedProcessor$State;)V"⟩
abbrev b_Map_init : ByteArray := prog_9_method_1_code
theorem yl_Map_init : kYi y_Map_init b_Map_init 3 2 := ⟨zw_61, zw_4, zw_62, by decide, by decide, by decide +kernel, rfl⟩
theorem d_Map_init_0 : decode b_Map_init 0 = .ok (.aload_n 0, 1) := by decide +kernel
theorem d_Map_init_1 : decode b_Map_init 1 = .ok (.invokespecial 3, 3) := by decide +kernel
theorem d_Map_init_4 : decode b_Map_init 4 = .ok (.aload_n 0, 1) := by decide +kernel
theorem d_Map_init_5 : decode b_Map_init 5 = .ok (.aload_n 1, 1) := by decide +kernel
theorem d_Map_init_6 : decode b_Map_init 6 = .ok (.putfield 9, 3) := by decide +kernel
theorem d_Map_init_9 : decode b_Map_init 9 = .ok (.aload_n 0, 1) := by decide +kernel
theorem d_Map_init_10 : decode b_Map_init 10 = .ok (.aload_n 2, 1) := by decide +kernel
theorem d_Map_init_11 : decode b_Map_init 11 = .ok (.putfield 15, 3) := by decide +kernel
theorem d_Map_init_14 : decode b_Map_init 14 = .ok (.aload_n 0, 1) := by decide +kernel
theorem d_Map_init_15 : decode b_Map_init 15 = .ok (.iconst (-1), 1) := by decide +kernel
theorem d_Map_init_16 : decode b_Map_init 16 = .ok (.putfield 19, 3) := by decide +kernel
theorem d_Map_init_19 : decode b_Map_init 19 = .ok (.return_, 1) := by decide +kernel
set_option maxHeartbeats 4000000 in
set_option maxRecDepth 100000 in
theorem c_Map_init (l : Launch) (D : va_G) (a aM aS : Nat) : kMn l y_Map_init b_Map_init 3 1 12 0 0 D kCl [] [.ref a, .ref aM, .ref aS] [(a, .inr (7, [.null, .null, .int 0]))] (fun (_ : Unit) => []) (fun (_ : Unit) => [(a, .inr (7, [.ref aM, .ref aS, .int (-1)]))]) := by
  unfold kMn
  refine k_entry (y := y_Map_init) (av := [.ref a, .ref aM, .ref aS]) (n := 3) (Qc := fun A => va_Qv (fun (_ : Unit) => True) (fun u t => kAt D kCl ((fun (_ : Unit) => []) u) A ((fun (_ : Unit) => [(a, .inr (7, [.ref aM, .ref aS, .int (-1)]))]) u) t) A) (lv := [(0, .ref a), (1, .ref aM), (2, .ref aS)]) (by decide) (Nat.le_of_ble_eq_true rfl) rfl ?_
  intro p e s m below meth c A ls hx hb hr hml hB hown hlocks hin hA hK hN hP hD hS hl
  have hown : s.vm.findClass "MappedProcessor$Mapper" = some m.cls := hown
  have hin : meth.name = "<init>" := hin
  refine lv_aload_n hx hb d_Map_init_0 rfl (lv_at hl 0 rfl) ?_
  refine W.objInit hx hb hown (hB _ zw_63) (hB _ zw_20) (hB _ zw_oc) rfl (by rw [hml]; exact hl.1) rfl d_Map_init_1 (Nat.le_of_ble_eq_true rfl) (Nat.le_of_ble_eq_true rfl) ?_
  refine W.eq (g2 := F0 m 4 ls []) rfl ?_
  refine lv_aload_n hx hb d_Map_init_4 rfl (lv_at hl 0 rfl) ?_
  refine lv_aload_n hx hb d_Map_init_5 rfl (lv_at hl 1 rfl) ?_
  refine va_putF (D := D) (ci := 7) (v := .ref aM) (ty := .object "MappedProcessor$Memory") (C := "MappedProcessor$Mapper") (T := T_Map) (N := 3) hx hb hB iw_Map ty_Map ty_Map_ok nm_Map hown hK hP hD hS 0 rfl rfl 0 (by decide) (hB _ zw_64) (fun _ h9 => h9) rfl hin rfl (by decide +kernel) rfl rfl (Nat.le_of_ble_eq_true rfl) d_Map_init_6 (fun H locs hP hD hS => ?_)
  have hP : va_P D kCl [(a, .inr (7, [.ref aM, .null, .int 0]))] H := hP
  have hD : va_D A [(a, .inr (7, [.ref aM, .null, .int 0]))] := hD
  refine lv_aload_n hx hb d_Map_init_9 rfl (lv_at hl 0 rfl) ?_
  refine lv_aload_n hx hb d_Map_init_10 rfl (lv_at hl 2 rfl) ?_
  refine va_putF (D := D) (ci := 7) (v := .ref aS) (ty := .object "MappedProcessor$State") (C := "MappedProcessor$Mapper") (T := T_Map) (N := 3) hx hb hB iw_Map ty_Map ty_Map_ok nm_Map hown hK hP hD hS 0 rfl rfl 1 (by decide) (hB _ zw_65) (fun _ h9 => h9) rfl hin rfl (by decide +kernel) rfl rfl (Nat.le_of_ble_eq_true rfl) d_Map_init_11 (fun H locs hP hD hS => ?_)
  have hP : va_P D kCl [(a, .inr (7, [.ref aM, .ref aS, .int 0]))] H := hP
  have hD : va_D A [(a, .inr (7, [.ref aM, .ref aS, .int 0]))] := hD
  refine lv_aload_n hx hb d_Map_init_14 rfl (lv_at hl 0 rfl) ?_
  refine lv_iconst (v := -1) hx hb d_Map_init_15 (by decide) ?_
  refine va_put (D := D) (ci := 7) (v := .int (-1)) (ty := .int) (C := "MappedProcessor$Mapper") (T := T_Map) (N := 3) hx hb hB iw_Map ty_Map ty_Map_ok nm_Map hown hK hP hD hS 0 rfl rfl 2 (by decide) (hB _ zw_66) (fun _ h9 => h9) rfl (by decide +kernel) rfl rfl (Nat.le_of_ble_eq_true rfl) d_Map_init_16 (fun H locs hP hD hS => ?_)
  have hP : va_P D kCl [(a, .inr (7, [.ref aM, .ref aS, .int (-1)]))] H := hP
  have hD : va_D A [(a, .inr (7, [.ref aM, .ref aS, .int (-1)]))] := hD
  exact k_vretn (S := Unit) () hx hb hr hlocks hK hP hD hS [] [0] rfl rfl rfl d_Map_init_19
/-! MappedProcessor$Accesses() -/
def y_Acc_init : MethodName := ⟨"MappedProcessor$Accesses", "<init>", "(LMappedProcessor$Memory;LMappedProcessor$State;LMappedProcessor$Mapper;)V"⟩
abbrev b_Acc_init : ByteArray := prog_2_method_1_code
theorem yl_Acc_init : kYi y_Acc_init b_Acc_init 4 3 := ⟨zw_196, zw_11, zw_197, by decide, by decide, by decide +kernel, rfl⟩
theorem d_Acc_init_0 : decode b_Acc_init 0 = .ok (.aload_n 0, 1) := by decide +kernel
theorem d_Acc_init_1 : decode b_Acc_init 1 = .ok (.invokespecial 3, 3) := by decide +kernel
theorem d_Acc_init_4 : decode b_Acc_init 4 = .ok (.aload_n 0, 1) := by decide +kernel
theorem d_Acc_init_5 : decode b_Acc_init 5 = .ok (.aload_n 1, 1) := by decide +kernel
theorem d_Acc_init_6 : decode b_Acc_init 6 = .ok (.putfield 9, 3) := by decide +kernel
theorem d_Acc_init_9 : decode b_Acc_init 9 = .ok (.aload_n 0, 1) := by decide +kernel
theorem d_Acc_init_10 : decode b_Acc_init 10 = .ok (.aload_n 2, 1) := by decide +kernel
theorem d_Acc_init_11 : decode b_Acc_init 11 = .ok (.putfield 15, 3) := by decide +kernel
theorem d_Acc_init_14 : decode b_Acc_init 14 = .ok (.aload_n 0, 1) := by decide +kernel
theorem d_Acc_init_15 : decode b_Acc_init 15 = .ok (.aload_n 3, 1) := by decide +kernel
theorem d_Acc_init_16 : decode b_Acc_init 16 = .ok (.putfield 19, 3) := by decide +kernel
theorem d_Acc_init_19 : decode b_Acc_init 19 = .ok (.return_, 1) := by decide +kernel
set_option maxHeartbeats 4000000 in
set_option maxRecDepth 100000 in
theorem c_Acc_init (l : Launch) (D : va_G) (a aM aS aQ : Nat) : kMn l y_Acc_init b_Acc_init 4 1 12 0 0 D kCl [] [.ref a, .ref aM, .ref aS, .ref aQ] [(a, .inr (0, [.null, .null, .null]))] (fun (_ : Unit) => []) (fun (_ : Unit) => [(a, .inr (0, [.ref aM, .ref aS, .ref aQ]))]) := by
  unfold kMn
  refine k_entry (y := y_Acc_init) (av := [.ref a, .ref aM, .ref aS, .ref aQ]) (n := 4) (Qc := fun A => va_Qv (fun (_ : Unit) => True) (fun u t => kAt D kCl ((fun (_ : Unit) => []) u) A ((fun (_ : Unit) => [(a, .inr (0, [.ref aM, .ref aS, .ref aQ]))]) u) t) A) (lv := [(0, .ref a), (1, .ref aM), (2, .ref aS), (3, .ref aQ)]) (by decide) (Nat.le_of_ble_eq_true rfl) rfl ?_
  intro p e s m below meth c A ls hx hb hr hml hB hown hlocks hin hA hK hN hP hD hS hl
  have hown : s.vm.findClass "MappedProcessor$Accesses" = some m.cls := hown
  have hin : meth.name = "<init>" := hin
  refine lv_aload_n hx hb d_Acc_init_0 rfl (lv_at hl 0 rfl) ?_
  refine W.objInit hx hb hown (hB _ zw_198) (hB _ zw_20) (hB _ zw_oc) rfl (by rw [hml]; exact hl.1) rfl d_Acc_init_1 (Nat.le_of_ble_eq_true rfl) (Nat.le_of_ble_eq_true rfl) ?_
  refine W.eq (g2 := F0 m 4 ls []) rfl ?_
  refine lv_aload_n hx hb d_Acc_init_4 rfl (lv_at hl 0 rfl) ?_
  refine lv_aload_n hx hb d_Acc_init_5 rfl (lv_at hl 1 rfl) ?_
  refine va_putF (D := D) (ci := 0) (v := .ref aM) (ty := .object "MappedProcessor$Memory") (C := "MappedProcessor$Accesses") (T := T_Acc) (N := 3) hx hb hB iw_Acc ty_Acc ty_Acc_ok nm_Acc hown hK hP hD hS 0 rfl rfl 0 (by decide) (hB _ zw_199) (fun _ h9 => h9) rfl hin rfl (by decide +kernel) rfl rfl (Nat.le_of_ble_eq_true rfl) d_Acc_init_6 (fun H locs hP hD hS => ?_)
  have hP : va_P D kCl [(a, .inr (0, [.ref aM, .null, .null]))] H := hP
  have hD : va_D A [(a, .inr (0, [.ref aM, .null, .null]))] := hD
  refine lv_aload_n hx hb d_Acc_init_9 rfl (lv_at hl 0 rfl) ?_
  refine lv_aload_n hx hb d_Acc_init_10 rfl (lv_at hl 2 rfl) ?_
  refine va_putF (D := D) (ci := 0) (v := .ref aS) (ty := .object "MappedProcessor$State") (C := "MappedProcessor$Accesses") (T := T_Acc) (N := 3) hx hb hB iw_Acc ty_Acc ty_Acc_ok nm_Acc hown hK hP hD hS 0 rfl rfl 1 (by decide) (hB _ zw_200) (fun _ h9 => h9) rfl hin rfl (by decide +kernel) rfl rfl (Nat.le_of_ble_eq_true rfl) d_Acc_init_11 (fun H locs hP hD hS => ?_)
  have hP : va_P D kCl [(a, .inr (0, [.ref aM, .ref aS, .null]))] H := hP
  have hD : va_D A [(a, .inr (0, [.ref aM, .ref aS, .null]))] := hD
  refine lv_aload_n hx hb d_Acc_init_14 rfl (lv_at hl 0 rfl) ?_
  refine lv_aload_n hx hb d_Acc_init_15 rfl (lv_at hl 3 rfl) ?_
  refine va_putF (D := D) (ci := 0) (v := .ref aQ) (ty := .object "MappedProcessor$Mapper") (C := "MappedProcessor$Accesses") (T := T_Acc) (N := 3) hx hb hB iw_Acc ty_Acc ty_Acc_ok nm_Acc hown hK hP hD hS 0 rfl rfl 2 (by decide) (hB _ zw_201) (fun _ h9 => h9) rfl hin rfl (by decide +kernel) rfl rfl (Nat.le_of_ble_eq_true rfl) d_Acc_init_16 (fun H locs hP hD hS => ?_)
  have hP : va_P D kCl [(a, .inr (0, [.ref aM, .ref aS, .ref aQ]))] H := hP
  have hD : va_D A [(a, .inr (0, [.ref aM, .ref aS, .ref aQ]))] := hD
  exact k_vretn (S := Unit) () hx hb hr hlocks hK hP hD hS [] [0] rfl rfl rfl d_Acc_init_19
/-! MappedProcessor$Memory() -/
def y_Mem_init : MethodName := ⟨"MappedProcessor$Memory", "<init>", "()V"⟩
abbrev b_Mem_init : ByteArray := prog_10_method_1_code
theorem yl_Mem_init : kYi y_Mem_init b_Mem_init 1 0 := ⟨zw_25, zw_2, zw_26, by decide, by decide, by decide +kernel, rfl⟩
theorem d_Mem_init_0 : decode b_Mem_init 0 = .ok (.aload_n 0, 1) := by decide +kernel
theorem d_Mem_init_1 : decode b_Mem_init 1 = .ok (.invokespecial 3, 3) := by decide +kernel
theorem d_Mem_init_4 : decode b_Mem_init 4 = .ok (.aload_n 0, 1) := by decide +kernel
theorem d_Mem_init_5 : decode b_Mem_init 5 = .ok (.sipush 16384, 3) := by decide +kernel
theorem d_Mem_init_8 : decode b_Mem_init 8 = .ok (.newarray .int, 2) := by decide +kernel
theorem d_Mem_init_10 : decode b_Mem_init 10 = .ok (.putfield 9, 3) := by decide +kernel
theorem d_Mem_init_13 : decode b_Mem_init 13 = .ok (.return_, 1) := by decide +kernel
set_option maxHeartbeats 4000000 in
set_option maxRecDepth 100000 in
theorem c_Mem_init (l : Launch) (D : va_G) (a : Nat) : kMn l y_Mem_init b_Mem_init 1 1 12 1 16384 D kCl [] [.ref a] [(a, .inr (8, [.null]))] (fun (u : Nat × ClassId) => match u with | (q, d) => [(d, .int)]) (fun (u : Nat × ClassId) => match u with | (q, d) => [(a, .inr (8, [.ref q])), (q, .inl (d, 16384, .inl (fun _ => 0)))]) := by
  unfold kMn
  refine k_entry (y := y_Mem_init) (av := [.ref a]) (n := 1) (Qc := fun A => va_Qv (fun (_ : Nat × ClassId) => True) (fun u t => kAt D kCl ((fun (u : Nat × ClassId) => match u with | (q, d) => [(d, .int)]) u) A ((fun (u : Nat × ClassId) => match u with | (q, d) => [(a, .inr (8, [.ref q])), (q, .inl (d, 16384, .inl (fun _ => 0)))]) u) t) A) (lv := [(0, .ref a)]) (by decide) (Nat.le_of_ble_eq_true rfl) rfl ?_
  intro p e s m below meth c A ls hx hb hr hml hB hown hlocks hin hA hK hN hP hD hS hl
  have hown : s.vm.findClass "MappedProcessor$Memory" = some m.cls := hown
  have hin : meth.name = "<init>" := hin
  refine lv_aload_n hx hb d_Mem_init_0 rfl (lv_at hl 0 rfl) ?_
  refine W.objInit hx hb hown (hB _ zw_27) (hB _ zw_20) (hB _ zw_oc) rfl (by rw [hml]; exact hl.1) rfl d_Mem_init_1 (Nat.le_of_ble_eq_true rfl) (Nat.le_of_ble_eq_true rfl) ?_
  refine W.eq (g2 := F0 m 4 ls []) rfl ?_
  refine lv_aload_n hx hb d_Mem_init_4 rfl (lv_at hl 0 rfl) ?_
  refine lv_sipush (v := 16384) hx hb d_Mem_init_5 (by decide) ?_
  refine va_newa (atype := .int) (ty := .int) (N' := 16384) (a0 := (16384, .inl (fun _ => 0))) hx hb (hB _ zw_32) rfl hK hP hD hS hA (fun _ => rfl) (by decide) (by decide) (by decide) (Nat.le_of_ble_eq_true rfl) (Nat.le_of_ble_eq_true rfl) d_Mem_init_8 (fun q d H hK hP hD hS => ?_)
  have hK : va_K D kCl [(d, .int)] s := hK
  have hP : va_P D kCl [(a, .inr (8, [.null])), (q, .inl (d, 16384, .inl (fun _ => 0)))] H := hP
  have hD : va_D A [(a, .inr (8, [.null])), (q, .inl (d, 16384, .inl (fun _ => 0)))] := hD
  refine W.widen (k := 1) (n := 16384) (by decide) (by decide) ?_
  refine va_putF (D := D) (ci := 8) (v := .ref q) (ty := .array .int) (C := "MappedProcessor$Memory") (T := T_Mem) (N := 1) hx hb hB iw_Mem ty_Mem ty_Mem_ok nm_Mem hown hK hP hD hS 0 rfl rfl 0 (by decide) (hB _ zw_28) (fun _ h9 => h9) rfl hin rfl (by decide +kernel) rfl rfl (Nat.le_of_ble_eq_true rfl) d_Mem_init_10 (fun H locs hP hD hS => ?_)
  have hP : va_P D kCl [(a, .inr (8, [.ref q])), (q, .inl (d, 16384, .inl (fun _ => 0)))] H := hP
  have hD : va_D A [(a, .inr (8, [.ref q])), (q, .inl (d, 16384, .inl (fun _ => 0)))] := hD
  exact k_vretn (S := Nat × ClassId) (q, d) hx hb hr hlocks hK hP hD hS [0] [0, 1] rfl rfl rfl d_Mem_init_13
/-! MappedProcessor$State() -/
def y_Sta_init : MethodName := ⟨"MappedProcessor$State", "<init>", "()V"⟩
abbrev b_Sta_init : ByteArray := prog_11_method_1_code
theorem yl_Sta_init : kYi y_Sta_init b_Sta_init 1 0 := ⟨zw_36, zw_3, zw_37, by decide, by decide, by decide +kernel, rfl⟩
theorem d_Sta_init_0 : decode b_Sta_init 0 = .ok (.aload_n 0, 1) := by decide +kernel
theorem d_Sta_init_1 : decode b_Sta_init 1 = .ok (.invokespecial 3, 3) := by decide +kernel
theorem d_Sta_init_4 : decode b_Sta_init 4 = .ok (.aload_n 0, 1) := by decide +kernel
theorem d_Sta_init_5 : decode b_Sta_init 5 = .ok (.bipush 32, 2) := by decide +kernel
theorem d_Sta_init_7 : decode b_Sta_init 7 = .ok (.newarray .int, 2) := by decide +kernel
theorem d_Sta_init_9 : decode b_Sta_init 9 = .ok (.putfield 9, 3) := by decide +kernel
theorem d_Sta_init_12 : decode b_Sta_init 12 = .ok (.aload_n 0, 1) := by decide +kernel
theorem d_Sta_init_13 : decode b_Sta_init 13 = .ok (.bipush 64, 2) := by decide +kernel
theorem d_Sta_init_15 : decode b_Sta_init 15 = .ok (.newarray .int, 2) := by decide +kernel
theorem d_Sta_init_17 : decode b_Sta_init 17 = .ok (.putfield 15, 3) := by decide +kernel
theorem d_Sta_init_20 : decode b_Sta_init 20 = .ok (.return_, 1) := by decide +kernel
set_option maxHeartbeats 4000000 in
set_option maxRecDepth 100000 in
theorem c_Sta_init (l : Launch) (D : va_G) (a : Nat) : kMn l y_Sta_init b_Sta_init 1 1 12 2 96 D kCl [] [.ref a] [(a, .inr (9, [.null, .null, .int 0, .int 0, .int 0, .int 0]))] (fun (u : Nat × Nat × ClassId × ClassId) => match u with | (q1, q2, d1, d2) => [(d1, .int), (d2, .int)]) (fun (u : Nat × Nat × ClassId × ClassId) => match u with | (q1, q2, d1, d2) => [(a, .inr (9, [.ref q1, .ref q2, .int 0, .int 0, .int 0, .int 0])), (q1, .inl (d1, 32, .inl (fun _ => 0))), (q2, .inl (d2, 64, .inl (fun _ => 0)))]) := by
  unfold kMn
  refine k_entry (y := y_Sta_init) (av := [.ref a]) (n := 1) (Qc := fun A => va_Qv (fun (_ : Nat × Nat × ClassId × ClassId) => True) (fun u t => kAt D kCl ((fun (u : Nat × Nat × ClassId × ClassId) => match u with | (q1, q2, d1, d2) => [(d1, .int), (d2, .int)]) u) A ((fun (u : Nat × Nat × ClassId × ClassId) => match u with | (q1, q2, d1, d2) => [(a, .inr (9, [.ref q1, .ref q2, .int 0, .int 0, .int 0, .int 0])), (q1, .inl (d1, 32, .inl (fun _ => 0))), (q2, .inl (d2, 64, .inl (fun _ => 0)))]) u) t) A) (lv := [(0, .ref a)]) (by decide) (Nat.le_of_ble_eq_true rfl) rfl ?_
  intro p e s m below meth c A ls hx hb hr hml hB hown hlocks hin hA hK hN hP hD hS hl
  have hown : s.vm.findClass "MappedProcessor$State" = some m.cls := hown
  have hin : meth.name = "<init>" := hin
  refine lv_aload_n hx hb d_Sta_init_0 rfl (lv_at hl 0 rfl) ?_
  refine W.objInit hx hb hown (hB _ zw_38) (hB _ zw_20) (hB _ zw_oc) rfl (by rw [hml]; exact hl.1) rfl d_Sta_init_1 (Nat.le_of_ble_eq_true rfl) (Nat.le_of_ble_eq_true rfl) ?_
  refine W.eq (g2 := F0 m 4 ls []) rfl ?_
  refine lv_aload_n hx hb d_Sta_init_4 rfl (lv_at hl 0 rfl) ?_
  refine lv_bipush (v := 32) hx hb d_Sta_init_5 (by decide) ?_
  refine va_newa (atype := .int) (ty := .int) (N' := 32) (a0 := (32, .inl (fun _ => 0))) hx hb (hB _ zw_32) rfl hK hP hD hS hA (fun _ => rfl) (by decide) (by decide) (by decide) (Nat.le_of_ble_eq_true rfl) (Nat.le_of_ble_eq_true rfl) d_Sta_init_7 (fun q1 d1 H hK hP hD hS => ?_)
  have hK : va_K D kCl [(d1, .int)] s := hK
  have hP : va_P D kCl [(a, .inr (9, [.null, .null, .int 0, .int 0, .int 0, .int 0])), (q1, .inl (d1, 32, .inl (fun _ => 0)))] H := hP
  have hD : va_D A [(a, .inr (9, [.null, .null, .int 0, .int 0, .int 0, .int 0])), (q1, .inl (d1, 32, .inl (fun _ => 0)))] := hD
  refine W.widen (k := 1) (n := 32) (by decide) (by decide) ?_
  refine va_putF (D := D) (ci := 9) (v := .ref q1) (ty := .array .int) (C := "MappedProcessor$State") (T := T_Sta) (N := 6) hx hb hB iw_Sta ty_Sta ty_Sta_ok nm_Sta hown hK hP hD hS 0 rfl rfl 0 (by decide) (hB _ zw_39) (fun _ h9 => h9) rfl hin rfl (by decide +kernel) rfl rfl (Nat.le_of_ble_eq_true rfl) d_Sta_init_9 (fun H locs hP hD hS => ?_)
  have hP : va_P D kCl [(a, .inr (9, [.ref q1, .null, .int 0, .int 0, .int 0, .int 0])), (q1, .inl (d1, 32, .inl (fun _ => 0)))] H := hP
  have hD : va_D A [(a, .inr (9, [.ref q1, .null, .int 0, .int 0, .int 0, .int 0])), (q1, .inl (d1, 32, .inl (fun _ => 0)))] := hD
  refine lv_aload_n hx hb d_Sta_init_12 rfl (lv_at hl 0 rfl) ?_
  refine lv_bipush (v := 64) hx hb d_Sta_init_13 (by decide) ?_
  refine va_newa (atype := .int) (ty := .int) (N' := 64) (a0 := (64, .inl (fun _ => 0))) hx hb (hB _ zw_32) rfl hK hP hD hS hA (fun _ => rfl) (by decide) (by decide) (by decide) (Nat.le_of_ble_eq_true rfl) (Nat.le_of_ble_eq_true rfl) d_Sta_init_15 (fun q2 d2 H hK hP hD hS => ?_)
  have hK : va_K D kCl [(d1, .int), (d2, .int)] s := hK
  have hP : va_P D kCl [(a, .inr (9, [.ref q1, .null, .int 0, .int 0, .int 0, .int 0])), (q1, .inl (d1, 32, .inl (fun _ => 0))), (q2, .inl (d2, 64, .inl (fun _ => 0)))] H := hP
  have hD : va_D A [(a, .inr (9, [.ref q1, .null, .int 0, .int 0, .int 0, .int 0])), (q1, .inl (d1, 32, .inl (fun _ => 0))), (q2, .inl (d2, 64, .inl (fun _ => 0)))] := hD
  refine W.widen (k := 2) (n := 96) (by decide) (by decide) ?_
  refine va_putF (D := D) (ci := 9) (v := .ref q2) (ty := .array .int) (C := "MappedProcessor$State") (T := T_Sta) (N := 6) hx hb hB iw_Sta ty_Sta ty_Sta_ok nm_Sta hown hK hP hD hS 0 rfl rfl 1 (by decide) (hB _ zw_40) (fun _ h9 => h9) rfl hin rfl (by decide +kernel) rfl rfl (Nat.le_of_ble_eq_true rfl) d_Sta_init_17 (fun H locs hP hD hS => ?_)
  have hP : va_P D kCl [(a, .inr (9, [.ref q1, .ref q2, .int 0, .int 0, .int 0, .int 0])), (q1, .inl (d1, 32, .inl (fun _ => 0))), (q2, .inl (d2, 64, .inl (fun _ => 0)))] H := hP
  have hD : va_D A [(a, .inr (9, [.ref q1, .ref q2, .int 0, .int 0, .int 0, .int 0])), (q1, .inl (d1, 32, .inl (fun _ => 0))), (q2, .inl (d2, 64, .inl (fun _ => 0)))] := hD
  exact k_vretn (S := Nat × Nat × ClassId × ClassId) (q1, q2, d1, d2) hx hb hr hlocks hK hP hD hS [0, 1] [0, 1, 2] rfl rfl rfl d_Sta_init_20
/-! MappedProcessorModel() -/
def y_Ref_init : MethodName := ⟨"MappedProcessorModel", "<init>", "()V"⟩
abbrev b_Ref_init : ByteArray := prog_13_method_1_code
theorem yl_Ref_init : kYi y_Ref_init b_Ref_init 1 0 := ⟨zw_640, zw_12, zw_641, by decide, by decide, by decide +kernel, rfl⟩
theorem d_Ref_init_0 : decode b_Ref_init 0 = .ok (.aload_n 0, 1) := by decide +kernel
theorem d_Ref_init_1 : decode b_Ref_init 1 = .ok (.invokespecial 1, 3) := by decide +kernel
theorem d_Ref_init_4 : decode b_Ref_init 4 = .ok (.aload_n 0, 1) := by decide +kernel
theorem d_Ref_init_5 : decode b_Ref_init 5 = .ok (.bipush 32, 2) := by decide +kernel
theorem d_Ref_init_7 : decode b_Ref_init 7 = .ok (.newarray .int, 2) := by decide +kernel
theorem d_Ref_init_9 : decode b_Ref_init 9 = .ok (.putfield 7, 3) := by decide +kernel
theorem d_Ref_init_12 : decode b_Ref_init 12 = .ok (.aload_n 0, 1) := by decide +kernel
theorem d_Ref_init_13 : decode b_Ref_init 13 = .ok (.bipush 48, 2) := by decide +kernel
theorem d_Ref_init_15 : decode b_Ref_init 15 = .ok (.newarray .int, 2) := by decide +kernel
theorem d_Ref_init_17 : decode b_Ref_init 17 = .ok (.putfield 13, 3) := by decide +kernel
theorem d_Ref_init_20 : decode b_Ref_init 20 = .ok (.aload_n 0, 1) := by decide +kernel
theorem d_Ref_init_21 : decode b_Ref_init 21 = .ok (.sipush 16384, 3) := by decide +kernel
theorem d_Ref_init_24 : decode b_Ref_init 24 = .ok (.newarray .int, 2) := by decide +kernel
theorem d_Ref_init_26 : decode b_Ref_init 26 = .ok (.putfield 16, 3) := by decide +kernel
theorem d_Ref_init_29 : decode b_Ref_init 29 = .ok (.return_, 1) := by decide +kernel
set_option maxHeartbeats 4000000 in
set_option maxRecDepth 100000 in
theorem c_Ref_init (l : Launch) (D : va_G) (a : Nat) : kMn l y_Ref_init b_Ref_init 1 1 12 3 16464 D kCl [] [.ref a] [(a, .inr (11, [.null, .null, .null, .int 0, .int 0, .int 0, .int 0, .int 0, .int 0, .int 0, .int 0, .int 0, .int 0, .int 0]))] (fun (u : Nat × Nat × Nat × ClassId × ClassId × ClassId) => match u with | (q1, q2, q3, d1, d2, d3) => [(d1, .int), (d2, .int), (d3, .int)]) (fun (u : Nat × Nat × Nat × ClassId × ClassId × ClassId) => match u with | (q1, q2, q3, d1, d2, d3) => [(a, .inr (11, [.ref q1, .ref q2, .ref q3, .int 0, .int 0, .int 0, .int 0, .int 0, .int 0, .int 0, .int 0, .int 0, .int 0, .int 0])), (q1, .inl (d1, 32, .inl (fun _ => 0))), (q2, .inl (d2, 48, .inl (fun _ => 0))), (q3, .inl (d3, 16384, .inl (fun _ => 0)))]) := by
  unfold kMn
  refine k_entry (y := y_Ref_init) (av := [.ref a]) (n := 1) (Qc := fun A => va_Qv (fun (_ : Nat × Nat × Nat × ClassId × ClassId × ClassId) => True) (fun u t => kAt D kCl ((fun (u : Nat × Nat × Nat × ClassId × ClassId × ClassId) => match u with | (q1, q2, q3, d1, d2, d3) => [(d1, .int), (d2, .int), (d3, .int)]) u) A ((fun (u : Nat × Nat × Nat × ClassId × ClassId × ClassId) => match u with | (q1, q2, q3, d1, d2, d3) => [(a, .inr (11, [.ref q1, .ref q2, .ref q3, .int 0, .int 0, .int 0, .int 0, .int 0, .int 0, .int 0, .int 0, .int 0, .int 0, .int 0])), (q1, .inl (d1, 32, .inl (fun _ => 0))), (q2, .inl (d2, 48, .inl (fun _ => 0))), (q3, .inl (d3, 16384, .inl (fun _ => 0)))]) u) t) A) (lv := [(0, .ref a)]) (by decide) (Nat.le_of_ble_eq_true rfl) rfl ?_
  intro p e s m below meth c A ls hx hb hr hml hB hown hlocks hin hA hK hN hP hD hS hl
  have hown : s.vm.findClass "MappedProcessorModel" = some m.cls := hown
  have hin : meth.name = "<init>" := hin
  refine lv_aload_n hx hb d_Ref_init_0 rfl (lv_at hl 0 rfl) ?_
  refine W.objInit hx hb hown (hB _ zw_642) (hB _ zw_20) (hB _ zw_oc) rfl (by rw [hml]; exact hl.1) rfl d_Ref_init_1 (Nat.le_of_ble_eq_true rfl) (Nat.le_of_ble_eq_true rfl) ?_
  refine W.eq (g2 := F0 m 4 ls []) rfl ?_
  refine lv_aload_n hx hb d_Ref_init_4 rfl (lv_at hl 0 rfl) ?_
  refine lv_bipush (v := 32) hx hb d_Ref_init_5 (by decide) ?_
  refine va_newa (atype := .int) (ty := .int) (N' := 32) (a0 := (32, .inl (fun _ => 0))) hx hb (hB _ zw_32) rfl hK hP hD hS hA (fun _ => rfl) (by decide) (by decide) (by decide) (Nat.le_of_ble_eq_true rfl) (Nat.le_of_ble_eq_true rfl) d_Ref_init_7 (fun q1 d1 H hK hP hD hS => ?_)
  have hK : va_K D kCl [(d1, .int)] s := hK
  have hP : va_P D kCl [(a, .inr (11, [.null, .null, .null, .int 0, .int 0, .int 0, .int 0, .int 0, .int 0, .int 0, .int 0, .int 0, .int 0, .int 0])), (q1, .inl (d1, 32, .inl (fun _ => 0)))] H := hP
  have hD : va_D A [(a, .inr (11, [.null, .null, .null, .int 0, .int 0, .int 0, .int 0, .int 0, .int 0, .int 0, .int 0, .int 0, .int 0, .int 0])), (q1, .inl (d1, 32, .inl (fun _ => 0)))] := hD
  refine W.widen (k := 1) (n := 32) (by decide) (by decide) ?_
  refine va_putF (D := D) (ci := 11) (v := .ref q1) (ty := .array .int) (C := "MappedProcessorModel") (T := T_Ref) (N := 14) hx hb hB iw_Ref ty_Ref ty_Ref_ok nm_Ref hown hK hP hD hS 0 rfl rfl 0 (by decide) (hB _ zw_643) (fun _ h9 => h9) rfl hin rfl (by decide +kernel) rfl rfl (Nat.le_of_ble_eq_true rfl) d_Ref_init_9 (fun H locs hP hD hS => ?_)
  have hP : va_P D kCl [(a, .inr (11, [.ref q1, .null, .null, .int 0, .int 0, .int 0, .int 0, .int 0, .int 0, .int 0, .int 0, .int 0, .int 0, .int 0])), (q1, .inl (d1, 32, .inl (fun _ => 0)))] H := hP
  have hD : va_D A [(a, .inr (11, [.ref q1, .null, .null, .int 0, .int 0, .int 0, .int 0, .int 0, .int 0, .int 0, .int 0, .int 0, .int 0, .int 0])), (q1, .inl (d1, 32, .inl (fun _ => 0)))] := hD
  refine lv_aload_n hx hb d_Ref_init_12 rfl (lv_at hl 0 rfl) ?_
  refine lv_bipush (v := 48) hx hb d_Ref_init_13 (by decide) ?_
  refine va_newa (atype := .int) (ty := .int) (N' := 48) (a0 := (48, .inl (fun _ => 0))) hx hb (hB _ zw_32) rfl hK hP hD hS hA (fun _ => rfl) (by decide) (by decide) (by decide) (Nat.le_of_ble_eq_true rfl) (Nat.le_of_ble_eq_true rfl) d_Ref_init_15 (fun q2 d2 H hK hP hD hS => ?_)
  have hK : va_K D kCl [(d1, .int), (d2, .int)] s := hK
  have hP : va_P D kCl [(a, .inr (11, [.ref q1, .null, .null, .int 0, .int 0, .int 0, .int 0, .int 0, .int 0, .int 0, .int 0, .int 0, .int 0, .int 0])), (q1, .inl (d1, 32, .inl (fun _ => 0))), (q2, .inl (d2, 48, .inl (fun _ => 0)))] H := hP
  have hD : va_D A [(a, .inr (11, [.ref q1, .null, .null, .int 0, .int 0, .int 0, .int 0, .int 0, .int 0, .int 0, .int 0, .int 0, .int 0, .int 0])), (q1, .inl (d1, 32, .inl (fun _ => 0))), (q2, .inl (d2, 48, .inl (fun _ => 0)))] := hD
  refine W.widen (k := 2) (n := 80) (by decide) (by decide) ?_
  refine va_putF (D := D) (ci := 11) (v := .ref q2) (ty := .array .int) (C := "MappedProcessorModel") (T := T_Ref) (N := 14) hx hb hB iw_Ref ty_Ref ty_Ref_ok nm_Ref hown hK hP hD hS 0 rfl rfl 1 (by decide) (hB _ zw_644) (fun _ h9 => h9) rfl hin rfl (by decide +kernel) rfl rfl (Nat.le_of_ble_eq_true rfl) d_Ref_init_17 (fun H locs hP hD hS => ?_)
  have hP : va_P D kCl [(a, .inr (11, [.ref q1, .ref q2, .null, .int 0, .int 0, .int 0, .int 0, .int 0, .int 0, .int 0, .int 0, .int 0, .int 0, .int 0])), (q1, .inl (d1, 32, .inl (fun _ => 0))), (q2, .inl (d2, 48, .inl (fun _ => 0)))] H := hP
  have hD : va_D A [(a, .inr (11, [.ref q1, .ref q2, .null, .int 0, .int 0, .int 0, .int 0, .int 0, .int 0, .int 0, .int 0, .int 0, .int 0, .int 0])), (q1, .inl (d1, 32, .inl (fun _ => 0))), (q2, .inl (d2, 48, .inl (fun _ => 0)))] := hD
  refine lv_aload_n hx hb d_Ref_init_20 rfl (lv_at hl 0 rfl) ?_
  refine lv_sipush (v := 16384) hx hb d_Ref_init_21 (by decide) ?_
  refine va_newa (atype := .int) (ty := .int) (N' := 16384) (a0 := (16384, .inl (fun _ => 0))) hx hb (hB _ zw_32) rfl hK hP hD hS hA (fun _ => rfl) (by decide) (by decide) (by decide) (Nat.le_of_ble_eq_true rfl) (Nat.le_of_ble_eq_true rfl) d_Ref_init_24 (fun q3 d3 H hK hP hD hS => ?_)
  have hK : va_K D kCl [(d1, .int), (d2, .int), (d3, .int)] s := hK
  have hP : va_P D kCl [(a, .inr (11, [.ref q1, .ref q2, .null, .int 0, .int 0, .int 0, .int 0, .int 0, .int 0, .int 0, .int 0, .int 0, .int 0, .int 0])), (q1, .inl (d1, 32, .inl (fun _ => 0))), (q2, .inl (d2, 48, .inl (fun _ => 0))), (q3, .inl (d3, 16384, .inl (fun _ => 0)))] H := hP
  have hD : va_D A [(a, .inr (11, [.ref q1, .ref q2, .null, .int 0, .int 0, .int 0, .int 0, .int 0, .int 0, .int 0, .int 0, .int 0, .int 0, .int 0])), (q1, .inl (d1, 32, .inl (fun _ => 0))), (q2, .inl (d2, 48, .inl (fun _ => 0))), (q3, .inl (d3, 16384, .inl (fun _ => 0)))] := hD
  refine W.widen (k := 3) (n := 16464) (by decide) (by decide) ?_
  refine va_putF (D := D) (ci := 11) (v := .ref q3) (ty := .array .int) (C := "MappedProcessorModel") (T := T_Ref) (N := 14) hx hb hB iw_Ref ty_Ref ty_Ref_ok nm_Ref hown hK hP hD hS 0 rfl rfl 2 (by decide) (hB _ zw_645) (fun _ h9 => h9) rfl hin rfl (by decide +kernel) rfl rfl (Nat.le_of_ble_eq_true rfl) d_Ref_init_26 (fun H locs hP hD hS => ?_)
  have hP : va_P D kCl [(a, .inr (11, [.ref q1, .ref q2, .ref q3, .int 0, .int 0, .int 0, .int 0, .int 0, .int 0, .int 0, .int 0, .int 0, .int 0, .int 0])), (q1, .inl (d1, 32, .inl (fun _ => 0))), (q2, .inl (d2, 48, .inl (fun _ => 0))), (q3, .inl (d3, 16384, .inl (fun _ => 0)))] H := hP
  have hD : va_D A [(a, .inr (11, [.ref q1, .ref q2, .ref q3, .int 0, .int 0, .int 0, .int 0, .int 0, .int 0, .int 0, .int 0, .int 0, .int 0, .int 0])), (q1, .inl (d1, 32, .inl (fun _ => 0))), (q2, .inl (d2, 48, .inl (fun _ => 0))), (q3, .inl (d3, 16384, .inl (fun _ => 0)))] := hD
  exact k_vretn (S := Nat × Nat × Nat × ClassId × ClassId × ClassId) (q1, q2, q3, d1, d2, d3) hx hb hr hlocks hK hP hD hS [0, 1, 2] [0, 1, 2, 3] rfl rfl rfl d_Ref_init_29
