/-! constructors: explicit worlds; a callee gets its own cells alone (cut and join) -/
abbrev ct_MC (l : Launch) (y : MethodName) (c : ByteArray) (n : Nat) (rm : Room) (g : Gx) (ws : va_W) (sz : Nat) (As : List Value) (PU : va_W → Prop) (mc ms : Nat) : Prop := Met l y (ct_ws y c n none) rm (va_Pc As (ct_Pre g ws sz)) (va_Qv PU (ct_Pst g (va_A ws sz)) (va_A ws sz)) mc ms (va_A ws sz)
theorem ct_startC {l : Launch} {y : MethodName} {cc : ByteArray} {nL mc ms : Nat} {rm : Room} {g : Gx} {ws0 : va_W} {sz : Nat} {As : List Value} {PU : va_W → Prop} (hy : plainName y.cls = true) (hA : (lg_sl As).length ≤ nL)
    (body : ∀ (p : Program) (e : Env) (sv : State) (m : MethodId) (args : Array Value) (below : List Frame) (meth : Method) (c : Code) (ls : Array Slot) (Q : State → Prop) (A : Nat → Prop) (H : Heap) (locs : List Loc), ct_Cx y.cls cc nL p sv m args meth c g A → meth.name = y.name →
      (∀ {ws : va_W} {H : Heap} {locs : List Loc} {cells slots pc : Nat} {ls : Array Slot}, ct_Wd g A sv ws H locs → PU ws → cells ≤ mc → slots ≤ ms → decode cc pc = .ok (.return_, 1) → W p l e rm sv m args below meth c H locs cells slots Q (F0 m pc ls [])) → lv_has ls nL (lv_args 0 As) → ct_Wd g A sv ws0 H locs → W p l e rm sv m args below meth c H locs 0 0 Q (F0 m 0 ls [])) : ct_MC l y cc nL rm g ws0 sz As PU mc ms := by
  refine Met.ofW (cc := cc) (maxL := nL) (ret := none) hy rfl ?_
  intro p e s m args below meth c s₁ B hml hv
  obtain ⟨rfl, hsz, hP, hD0, hE⟩ := hv
  have hts := atoms_spec (ws := ct_ws y cc nL none) B.pre
  rw [lg_entry_eq]
  have C0 : ct_Cx y.cls cc nL p s m As.toArray meth c g (va_A ws0 sz) := ⟨B.exec, B.bytes, hml, findClass_of_methodNamed B.named, fun w hw => hts w (List.mem_cons_of_mem _ hw), hE, fun q hq => Or.inr (by omega), B.notSynchronized⟩
  refine body p e s m _ below meth c _ _ _ _ _ C0 (name_of_methodNamed B.named B.method).1 (fun {ws H locs cells slots pc ls} hw hp h1 h2 hdg => ?_) (lv_entry As hA) ⟨hP, hD0.self, va_S.rf⟩
  exact W.widen h1 h2 (W.vret C0.1 C0.2.1 B.returns (fun t ht _ => ⟨⟨ws, rfl, hp, by rw [ht]; exact hw.1, hw.2.1⟩, hw.2.2.F ht⟩) hw.2.2.2.2 hdg C0.2.2.2.2.2.2.2)
section CTN
variable {p : Program} {l : Launch} {e : Env} {R : Room} {s : State} {m : MethodId} {args : Array Value} {below : List Frame} {meth : Method} {c : Code} {H : Heap} {locs : List Loc} {cells slots : Nat} {Q : State → Prop}
variable {own : String} {cc : ByteArray} {nL : Nat} {g : Gx} {A : Nat → Prop} {ws wc wr : va_W} {PU : va_W → Prop} {pc : Nat} {ls : Array Slot} {As rest st0 : List Value}
variable {y : MethodName} {cY : ByteArray} {nY index mcY msY b nA : Nat} {rm : Room}
theorem ct_objI {a : Nat} (C0 : ct_Cx own cc nL p s m args meth c g A) (h1 : Cond.methodLink own index Lib.objectInit ∈ Wds) (h2 : Cond.instanceMethod Lib.objectInit ∈ Wds) (h3 : Cond.code Lib.objectInit ⟨#[0xb1]⟩ 1 none ∈ Wds) (hls : ls.size = nL) (hf : 1 ≤ R.frames) (hlo : (rest.map fun v => v.category).sum + 12 ≤ R.locals) (hdg : decode cc pc = .ok (.invokespecial index, 3)) (kk : W p l e R s m args below meth c H locs cells slots Q (F0 m (pc + 3) ls rest)) : W p l e R s m args below meth c H locs cells slots Q (F0 m pc ls (.ref a :: rest)) :=
  W.objInit C0.1 C0.2.1 C0.2.2.2.1 (C0.2.2.2.2.1 _ h1) (C0.2.2.2.2.1 _ h2) (C0.2.2.2.2.1 _ h3) rfl (hls.trans C0.2.2.1.symm) rfl hdg hf (by show 2 * 0 + _ + 12 ≤ _; omega) kk
theorem ct_newa {atype : ArrayType} {ty : FieldType} {cK : ClassId} {t0 N : Nat} {a0 : vp_A} {n : Int32} (C0 : ct_Cx own cc nL p s m args meth c g A) (hw : ct_Wd g A s ws H locs) (harr : Cond.arrayClass (newarray.typeOf atype) ∈ Wds) (hty : newarray.typeOf atype = ty) (ht : (ct_ty g)[t0]? = some (cK, ty)) (hq : ∀ cA, va_RA s cA ty → va_RA s cK ty → cA = cK) (ha : ∀ cA : ClassId, vp_cell cA a0 = arrV cA N (fun _ => defaultValue ty)) (hn : ¬ n < 0) (hN : n.toNatClampNeg = N) (hbytes : N * componentBytes ty ≤ 536870912) (hcells : cells + 1 ≤ R.cells) (hslots : slots + N ≤ R.slots) (hdg : decode cc pc = .ok (.newarray atype, 2))
    (kk : ∀ (q : Nat) (H1 : Heap), ct_Wd g A s (ws ++ [(q, .inl (cK, a0))]) H1 locs → W p l e R s m args below meth c H1 locs (cells + 1) (slots + N) Q (F0 m (pc + 2) ls (.ref q :: rest))) : W p l e R s m args below meth c H locs cells slots Q (F0 m pc ls (.int n :: rest)) :=
  va_newa C0.1 C0.2.1 (C0.2.2.2.2.1 _ harr) hty C0.2.2.2.2.2.1.1 hw.1 hw.2.1 hw.2.2 C0.2.2.2.2.2.2.1 ha hn hN hbytes hcells hslots hdg (fun q cA H1 hK hP hD hS => by
    have h1 := (hK.2 (ct_ty g).length (cA, ty) (by simp)).2
    have e := hq cA h1 (C0.2.2.2.2.2.1.1.2 t0 (cK, ty) ht).2
    subst e
    exact kk q H1 ⟨hP, hD, hS⟩)
theorem ct_newq {C : String} {cK : ClassId} {t0 N : Nat} {n : Int32} (C0 : ct_Cx own cc nL p s m args meth c g A) (hw : ct_Wd g A s ws H locs) (hcl : Cond.classLink own index C ∈ Wds) (hao : va_AO C s) (ht : (ct_ty g)[t0]? = some (cK, .object C)) (hn : ¬ n < 0) (hN : n.toNatClampNeg = N) (hbytes : N * 4 ≤ 536870912) (hcells : cells + 1 ≤ R.cells) (hslots : slots + N ≤ R.slots) (hdg : decode cc pc = .ok (.anewarray index, 3))
    (kk : ∀ (q : Nat) (H1 : Heap), ct_Wd g A s (ws ++ [(q, .inl (cK, N, .inr (.inr (.inr (.inr (fun _ => none))))))]) H1 locs → W p l e R s m args below meth c H1 locs (cells + 1) (slots + N) Q (F0 m (pc + 3) ls (.ref q :: rest))) : W p l e R s m args below meth c H locs cells slots Q (F0 m pc ls (.int n :: rest)) :=
  va_newq C0.1 C0.2.1 C0.2.2.2.1 (C0.2.2.2.2.1 _ hcl) hao C0.2.2.2.2.2.1.1 hw.1 hw.2.1 hw.2.2 C0.2.2.2.2.2.2.1 hn hN hbytes hcells hslots hdg (fun q cA H1 hK hP hD hS => by
    obtain ⟨-, -, -, -, -, h1⟩ := (hK.2 (ct_ty g).length (cA, .object C) (by simp)).2
    obtain ⟨-, -, -, -, -, h2⟩ := (C0.2.2.2.2.2.1.1.2 t0 (cK, .object C) ht).2
    cases Option.some.inj (h1.symm.trans h2)
    exact kk q H1 ⟨hP, hD, hS⟩)
theorem ct_newo {C : String} {T : u_T} {N ci : Nat} {fs : List Value} (ty : Nat → FieldType) (C0 : ct_Cx own cc nL p s m args meth c g A) (hw : ct_Wd g A s ws H locs) (hin : ∀ w ∈ u_ws C T N, w ∈ Wds) (hty : ∀ k, k < N → parseFieldDescriptor (T k).2.2.1 = some (ty k)) (hcl : Cond.classLink own index C ∈ Wds) (hinst : Cond.instantiable C N ∈ Wds) (hini : Cond.initialized C ∈ Wds) (hc : kl[ci]? = some (C, T, N)) (hfs : ∀ j, j < N → defaultValue (ty j) = vp_V fs j) (hcells : cells + 1 ≤ R.cells) (hslots : slots + N ≤ R.slots) (hdg : decode cc pc = .ok (.new index, 3))
    (kk : ∀ (q : Nat) (H1 : Heap), ct_Wd g A s (ws ++ [(q, .inr (ci, fs))]) H1 locs → W p l e R s m args below meth c H1 locs (cells + 1) (slots + N) Q (F0 m (pc + 3) ls (.ref q :: rest))) : W p l e R s m args below meth c H locs cells slots Q (F0 m pc ls rest) :=
  va_new C0.1 C0.2.1 C0.2.2.2.2.1 hin ty hty C0.2.2.2.1 (C0.2.2.2.2.1 _ hcl) (C0.2.2.2.2.1 _ hinst) (C0.2.2.2.2.1 _ hini) C0.2.2.2.2.2.1.1 hw.1 hw.2.1 hw.2.2 C0.2.2.2.2.2.2.1 hc hfs hcells hslots hdg (fun q H1 hP hD hS => kk q H1 ⟨hP, hD, hS⟩)
theorem ct_prC (C0 : ct_Cx own cc nL p s m args meth c g A) (hw : ct_Wd g A s ws H locs) (isC : List Nat) (hn : va_nd isC = true) (hC : isC.map (fun i => ws[i]?) = wc.map some) : ∀ U : State, U.heap = H → s.WarmedH U.vm → va_Pc As (ct_Pre g wc H.size) As.toArray U := fun U hU hW =>
  ⟨rfl, by rw [hU], by rw [hU]; exact hw.1.by (fun k => isC.getD k 0) (fun k q hk => by
      have h1 : (isC.map (fun i => ws[i]?))[k]? = some (some q) := by rw [hC, List.getElem?_map, hk]; rfl
      rw [List.getElem?_map] at h1
      cases hi : isC[k]? with
      | none => rw [hi] at h1; cases h1
      | some i => rw [hi] at h1; show ws[isC.getD k 0]? = some q; rw [List.getD_eq_getElem?_getD, hi]; exact Option.some.inj h1), (hw.2.1.sub isC hn hC).weaken (fun _ _ _ _ => trivial), by rw [hU]; exact C0.2.2.2.2.2.1.go hw.2.2 (va_free hw.2.1 hw.2.2 C0.2.2.2.2.2.2.1 isC hC) hW⟩
theorem ct_bkC (C0 : ct_Cx own cc nL p s m args meth c g A) (hw : ct_Wd g A s ws H locs) (isC isR : List Nat) (hC : isC.map (fun i => ws[i]?) = wc.map some) (hR : isR.map (fun i => ws[i]?) = wr.map some) (hn : va_nd isR = true) (hdis : ∀ i ∈ isR, i ∉ isC) {u : va_W} {t : State} {H1 : Heap} {locs1 : List Loc} (ht : t.heap = H1) (hB : ct_Pst g (va_A wc H.size) u t) (hk : ∀ q : Nat, q < H.size → ¬ va_A wc H.size q → H1[q]? = H[q]?) (hS : va_S A s.heap H1 locs1) : ct_Wd g A s (wr ++ u) H1 locs1 := by
  have j := va_join (w1 := u) hw.1 hw.2.1 isC isR hC hR hn hdis hk (va_free hw.2.1 hw.2.2 C0.2.2.2.2.2.2.1 isC hC) (by rw [← ht]; exact hB.1) hB.2
  exact ⟨j.1, j.2, hS⟩
theorem ct_callC (C0 : ct_Cx own cc nL p s m args meth c g A) (hw : ct_Wd g A s ws H locs) (hls : ls.size = nL) (h1 : Cond.methodLink own index y ∈ Wds) (h2 : Cond.instanceMethod y ∈ Wds) (h3 : Cond.initialized y.cls ∈ Wds) (h4 : Cond.code y cY nY none ∈ Wds) (hM : ∀ sz, ct_MC l y cY nY rm g wc sz (.ref b :: As) PU mcY msY) (isC isR : List Nat) (hnC : va_nd isC = true) (hC : isC.map (fun i => ws[i]?) = wc.map some) (hR : isR.map (fun i => ws[i]?) = wr.map some) (hn : va_nd isR = true) (hdis : ∀ i ∈ isR, i ∉ isC)
    (hd : y.name = "<init>" ∧ y.cls ≠ "java/lang/invoke/MethodHandle" ∧ y.cls ≠ "java/lang/invoke/VarHandle" ∧ (parseMethodDescriptor y.desc).map (fun d => d.parameters.length) = some nA) (hnA : As.length = nA) (hrm : rm.cells = mcY ∧ rm.slots = msY) (hRo : rm.frames + 1 ≤ R.frames ∧ 8 + (nY + 11) + rm.locals ≤ R.locals) (hc : cells + mcY ≤ R.cells ∧ slots + msY ≤ R.slots) (hst : st0 = As.reverse ++ .ref b :: rest) (hrest : (rest.map fun v => v.category).sum ≤ 8) (hdg : decode cc pc = .ok (.invokespecial index, 3))
    (kk : ∀ (u : va_W) (H : Heap) (locs : List Loc), PU u → ct_Wd g A s (wr ++ u) H locs → W p l e R s m args below meth c H locs (cells + mcY) (slots + msY) Q (F0 m (pc + 3) ls rest)) : W p l e R s m args below meth c H locs cells slots Q (F0 m pc ls st0) := by
  have hG : GoodIn Wds (ct_ws y cY nY none) := ct_gi (fun w h => by
    rcases List.mem_cons.mp h with rfl | h
    · exact h4
    · exact h)
  have hF := va_free hw.2.1 hw.2.2 C0.2.2.2.2.2.2.1 isC hC
  refine va_callv (va_runI (As := As) (rest := rest) ⟨C0.1, C0.2.1, C0.2.2.1, C0.2.2.2.1, C0.2.2.2.2.1⟩ (hM H.size) (cwI nA C0.2.2.2.2.1 hG rfl hrm.1 hrm.2 (C0.2.2.2.2.1 _ h3) (C0.2.2.2.2.1 _ h1) (C0.2.2.2.2.1 _ h2) hd.1 hd.2 hRo) ⟨ct_blind, ct_prC C0 hw isC hnC hC⟩ rfl hnA hls hst (lv_room hrest) hdg hc) hw.2.2 (fun q _ h => hF q h) hF (fun u t H1 locs1 ht _ hp hB _ hk hS => ?_)
  exact kk u H1 locs1 hp (ct_bkC C0 hw isC isR hC hR hn hdis ht hB hk hS)
theorem ct_callCN {host : String} (C0 : ct_Cx own cc nL p s m args meth c g A) (hw : ct_Wd g A s ws H locs) (hls : ls.size = nL) (h1 : Cond.methodLinkNest own index y host ∈ NW) (h2 : Cond.instanceMethod y ∈ Wds) (h3 : Cond.initialized y.cls ∈ Wds) (h4 : Cond.code y cY nY none ∈ Wds) (hM : ∀ sz, ct_MC l y cY nY rm g wc sz (.ref b :: As) PU mcY msY) (isC isR : List Nat) (hnC : va_nd isC = true) (hC : isC.map (fun i => ws[i]?) = wc.map some) (hR : isR.map (fun i => ws[i]?) = wr.map some) (hn : va_nd isR = true) (hdis : ∀ i ∈ isR, i ∉ isC)
    (hd : y.name = "<init>" ∧ y.cls ≠ "java/lang/invoke/MethodHandle" ∧ y.cls ≠ "java/lang/invoke/VarHandle" ∧ (parseMethodDescriptor y.desc).map (fun d => d.parameters.length) = some nA) (hnA : As.length = nA) (hrm : rm.cells = mcY ∧ rm.slots = msY) (hRo : rm.frames + 1 ≤ R.frames ∧ 8 + (nY + 11) + rm.locals ≤ R.locals) (hc : cells + mcY ≤ R.cells ∧ slots + msY ≤ R.slots) (hst : st0 = As.reverse ++ .ref b :: rest) (hrest : (rest.map fun v => v.category).sum ≤ 8) (hdg : decode cc pc = .ok (.invokespecial index, 3))
    (kk : ∀ (u : va_W) (H : Heap) (locs : List Loc), PU u → ct_Wd g A s (wr ++ u) H locs → W p l e R s m args below meth c H locs (cells + mcY) (slots + msY) Q (F0 m (pc + 3) ls rest)) : W p l e R s m args below meth c H locs cells slots Q (F0 m pc ls st0) := by
  have hG : GoodIn Wds (ct_ws y cY nY none) := ct_gi (fun w h => by
    rcases List.mem_cons.mp h with rfl | h
    · exact h4
    · exact h)
  have hF := va_free hw.2.1 hw.2.2 C0.2.2.2.2.2.2.1 isC hC
  refine va_callv (va_runIN (As := As) (rest := rest) ⟨C0.1, C0.2.1, C0.2.2.1, C0.2.2.2.1, C0.2.2.2.2.1⟩ (hM H.size) ⟨va_cnB nA C0.2.2.2.2.1 hG rfl hrm.1 hrm.2 (C0.2.2.2.2.2.1.2.1 _ h1) (C0.2.2.2.2.1 _ h3) hd.2 hRo, hd.1, C0.2.2.2.2.1 _ h2⟩ ⟨ct_blind, ct_prC C0 hw isC hnC hC⟩ rfl hnA hls hst (lv_room hrest) hdg hc) hw.2.2 (fun q _ h => hF q h) hF (fun u t H1 locs1 ht _ hp hB _ hk hS => ?_)
  exact kk u H1 locs1 hp (ct_bkC C0 hw isC isR hC hR hn hdis ht hB hk hS)
theorem ct_mna {n k : Int32} {N K : Nat} (C0 : ct_Cx own cc nL p s m args meth c g A) (hw : ct_Wd g A s ws H locs) (hcl : Cond.classLink own index "[[I" ∈ Wds) (harr : Cond.arrayClass .int ∈ Wds) (hn : ¬ n < 0) (hk : ¬ k < 0) (hN : n.toNatClampNeg = N) (hK : k.toNatClampNeg = K) (hb1 : N * 4 ≤ 536870912) (hb2 : K * 4 ≤ 536870912) (hcells : cells + (1 + N) ≤ R.cells) (hslots : slots + (N + N * K) ≤ R.slots) (hdg : decode cc pc = .ok (.multianewarray index 2, 4))
    (kk : ∀ (q : Nat) (H1 : Heap), ct_Wd g A s (ws ++ (q, .inl (g.2.2 3, N, .inr (.inr (.inr (.inr (fun j => if j < N then some (q + 1 + j) else none)))))) :: (List.range N).map (fun j => (q + 1 + j, .inl (g.2.2 0, K, .inl (fun _ => 0))))) H1 locs → W p l e R s m args below meth c H1 locs (cells + 1 + N) (slots + N + N * K) Q (F0 m (pc + 4) ls (.ref q :: rest))) : W p l e R s m args below meth c H locs cells slots Q (F0 m pc ls (.int k :: .int n :: rest)) := by
  have enm : "[" ++ (FieldType.array .int).toString = "[[I" := by decide +kernel
  refine mn_W C0.1 C0.2.1 C0.2.2.2.1 (by rw [enm]; exact C0.2.2.2.2.1 _ hcl) C0.2.2.2.2.2.1.2.2.2.2.2.2.1 (C0.2.2.2.2.1 _ harr) hn hk hN hK hb1 hb2 hcells hslots hdg (fun H1 cA cI f1 f2 a1 a2 z1 e1 e2 o1 => ?_)
  have q1 : cA = g.2.2 3 := Option.some.inj (f1.symm.trans (C0.2.2.2.2.2.1.1.2 3 (g.2.2 3, .array .int) rfl).2)
  have q2 : cI = g.2.2 0 := Option.some.inj (f2.symm.trans (C0.2.2.2.2.2.1.1.2 0 (g.2.2 0, .int) rfl).2)
  subst q1
  subst q2
  have hold : ∀ (k : Nat) (x : Nat × va_E), ws[k]? = some x → H1[x.1]? = H[x.1]? := fun k x hx => o1 x.1 ((hw.1 k x hx).lt)
  have key : ∀ (i : Nat) (x : Nat × va_E), (((H.size, .inl (g.2.2 3, N, .inr (.inr (.inr (.inr (fun j => if j < N then some (H.size + 1 + j) else none)))))) :: (List.range N).map (fun j => (H.size + 1 + j, .inl (g.2.2 0, K, .inl (fun _ => 0))))) : va_W)[i]? = some x → x.1 = H.size + i ∧ va_at g.1 kl x H1 := by
    intro i x hx
    cases i with
    | zero =>
      cases hx
      exact ⟨rfl, e1⟩
    | succ i =>
      rw [List.getElem?_cons_succ, List.getElem?_map] at hx
      by_cases hi : i < N
      · rw [List.getElem?_range hi] at hx
        cases hx
        exact ⟨show H.size + 1 + i = H.size + (i + 1) by omega, e2 i hi⟩
      · rw [List.getElem?_eq_none (by simpa using hi)] at hx
        cases hx
  refine kk H.size H1 ⟨(hw.1.kept hold).app (fun i x hx => (key i x hx).2), hw.2.1.app ⟨fun i j x y hi hj hxy => ?_, fun i x hx => ?_⟩ (fun i j x y hi hj => ?_), Nat.le_trans hw.2.2.1 (by omega), fun x h1 h2 => (o1 x (Nat.lt_of_lt_of_le h1 hw.2.2.1)).trans (hw.2.2.2.1 x h1 h2), hw.2.2.2.2⟩
  · have h1 := (key i x hi).1
    have h2 := (key j y hj).1
    omega
  · rw [(key i x hx).1]
    exact C0.2.2.2.2.2.2.1 _ (Nat.le_trans hw.2.2.1 (Nat.le_add_right _ _))
  · have h1 := (hw.1 i x hi).lt
    have h2 := (key j y hj).1
    omega
end CTN
