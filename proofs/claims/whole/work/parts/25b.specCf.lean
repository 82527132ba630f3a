/-! methods of a class of which the machine runs others itself (java/lang/Math): the method's own name has no such row -/
theorem ofWF {l : Launch} {y : MethodName} {wd wd' : List Cond} {rm : Room} {Pc : Array Value → State → Prop} {Qc : Array Value → State → Outcome → State → Prop} {mc ms : Nat} {free : Addr → Prop} {cc : ByteArray} {maxL : Nat} {ret : Option FieldType}
    (hy : plainFor y = true) (hw : wd = Cond.code y cc maxL ret :: wd')
    (body : ∀ p e s m args below meth c s₁, BodyLoose p l y (headSpec wd rm) cc maxL ret e s m args below meth c s₁ → c.maxLocals = maxL → Pc args s →
      W p l e (headSpec wd rm).room s m args below meth c s.heap [] 0 0 (MQ below Qc args s mc ms free) (entryFrame m args maxL)) : Met l y wd rm Pc Qc mc ms free := by
  refine MetFree.of_bodySF (code := cc) (maxLocals := maxL) (ret := ret) hy (fun args s m h hn => ?_) (fun p e s m args below meth c s₁ B hml hP _ => ?_)
  · obtain ⟨meth, c, h1, h2, h3, h4, h5, h6, -, -⟩ := Cond.code_spec hn (atoms_spec (ws := wd) h _ (by rw [hw]; exact List.mem_cons_self))
    exact ⟨meth, c, h1, h2, h3, h4, h5, h6⟩
  · obtain ⟨t, a1, o, b1, b2, b3⟩ := body p e s m args below meth c s₁ B hml hP s₁ (by rw [B.state]; rfl) (Stand.of_body B)
    exact ⟨t, o, a1, b1, b2, ⟨b3.1, b3.2⟩⟩
theorem enF {l : Launch} {y : MethodName} {wd wd' : List Cond} {rm : Room} {D : va_G} {tys : List (ClassId × FieldType)} {W0 : va_W} {sz : Nat} {av : List Value} {Qc : (Nat → Prop) → Array Value → State → Outcome → State → Prop} {cc : ByteArray} {maxL : Nat} {ret : Option FieldType} {own : String}
    (hy : plainFor y = true) (hw : wd = Cond.code y cc maxL ret :: wd') (hn : (lg_sl av).length ≤ maxL) (ho : y.cls = own)
    (body : ∀ (p : Program) (e : Env) (s : State) (m : MethodId) (args : Array Value) (below : List Frame) (meth : Method) (c : Code) (A : Nat → Prop) (Q : State → Prop) (H : Heap) (locs : List Loc) (ls : Array Slot), p.tables.exec = Jvm.exec → c.code = cc → meth.sig.returnType = ret → c.maxLocals = maxL → s.vm.findClass own = some m.cls → (∀ w ∈ wd, w.before args s = true) → meth.locks = false → (meth.name = y.name) → (∀ q : Nat, s.heap.size ≤ q → A q) → EnvN s → EnvS A s s.heap → va_K D vwCl tys s → Q = MQ below (Qc A) args s 0 0 A → va_P D vwCl W0 H → va_D A W0 → va_S A s.heap H locs → lv_has ls maxL (lv_args 0 av) →
      W p l e rm s m args below meth c H locs 0 0 Q (F0 m 0 ls [])) : Met l y wd rm (va_Pc av (PU D tys W0 sz)) (Qc (va_A W0 sz)) 0 0 (va_A W0 sz) := by
  refine ofWF (cc := cc) (maxL := maxL) (ret := ret) hy hw ?_
  intro p e s m args below meth c s₁ B hml hv
  obtain ⟨rfl, hsz, hP, hK, hD0, hN, hE⟩ := hv
  subst hsz
  rw [lg_entry_eq]
  exact body p e s m av.toArray below meth c (va_A W0 s.heap.size) _ s.heap [] _ B.exec B.bytes B.returns hml (by rw [← ho]; exact findClass_of_methodNamed B.named) (atoms_spec (ws := wd) B.pre) B.notSynchronized (name_of_methodNamed B.named B.method).1 (fun q h => Or.inr h) hN hE hK rfl hP (hD0.self) va_S.rf (lv_entry av hn)
