/-! a method of a class that the machine has entries for (java/lang/Math) -/
theorem ct_startF {l : Launch} {y : MethodName} {cc : ByteArray} {nL : Nat} {ret : Option FieldType} {rm : Room} {g : Gx} {ws : va_W} {sz : Nat} {As : List Value} {Qc : Array Value → State → Outcome → State → Prop} (hy : plainFor y = true) (hA : (lg_sl As).length ≤ nL)
    (body : ∀ p e s m below meth c ls, ct_Cx y.cls cc nL p s m As.toArray meth c g (va_A ws sz) → meth.sig.returnType = ret → s.heap.size = sz → lv_has ls nL (lv_args 0 As) → ct_Wd g (va_A ws sz) s ws s.heap [] →
      W p l e rm s m As.toArray below meth c s.heap [] 0 0 (MQ below Qc As.toArray s 0 0 (va_A ws sz)) (F0 m 0 ls [])) : Met l y (ct_ws y cc nL ret) rm (va_Pc As (ct_Pre g ws sz)) Qc 0 0 (va_A ws sz) := by
  refine va_MetF (cc := cc) (maxL := nL) (ret := ret) hy rfl ?_
  intro p e s m args below meth c s₁ B hml hv
  obtain ⟨rfl, hsz, hP, hD0, hE⟩ := hv
  have hts := atoms_spec (ws := ct_ws y cc nL ret) B.pre
  rw [lg_entry_eq]
  exact body p e s m below meth c _ ⟨B.exec, B.bytes, hml, findClass_of_methodNamed B.named, fun w hw => hts w (List.mem_cons_of_mem _ hw), hE, fun q hq => Or.inr (by omega), B.notSynchronized⟩ B.returns hsz (lv_entry As hA) ⟨hP, hD0.self, va_S.rf⟩
theorem ct_startlF {l : Launch} {y : MethodName} {cc : ByteArray} {nL : Nat} {rm : Room} {g : Gx} {ws0 : va_W} {sz : Nat} {As : List Value} {PU : va_W → Prop} {v : Int64} (hy : plainFor y = true) (hA : (lg_sl As).length ≤ nL)
    (body : ∀ (p : Program) (e : Env) (sv : State) (m : MethodId) (args : Array Value) (below : List Frame) (meth : Method) (c : Code) (ls : Array Slot) (Q : State → Prop) (A : Nat → Prop) (H : Heap) (locs : List Loc), ct_Cx y.cls cc nL p sv m args meth c g A →
      (∀ {ws : va_W} {H : Heap} {locs : List Loc} {pc : Nat} {ls : Array Slot}, ct_Wd g A sv ws H locs → PU ws → decode cc pc = .ok (.lreturn, 1) → W p l e rm sv m args below meth c H locs 0 0 Q (F0 m pc ls [.long v])) → lv_has ls nL (lv_args 0 As) → ct_Wd g A sv ws0 H locs → W p l e rm sv m args below meth c H locs 0 0 Q (F0 m 0 ls [])) : ct_ML l y cc nL (some .long) rm g ws0 sz As v PU :=
  ct_startF hy hA (fun p e s m below meth c ls C0 hr _ hl hw => body p e s m _ below meth c ls _ _ _ _ C0 (fun hw hp hd => ct_retl C0 hr hw hp hd) hl hw)
