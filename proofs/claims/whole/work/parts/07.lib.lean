/-! the world: places 0 .. 34 the class's, 35 .. 46 the reference's, 47 the law's long[1]. g: where classes and fields lie, addresses by place, the array classes -/
abbrev Gx : Type := va_G × (Nat → Nat) × (Nat → ClassId)
def ct_ty (g : Gx) : List (ClassId × FieldType) := [(g.2.2 0, .int), (g.2.2 1, .boolean), (g.2.2 2, .long), (g.2.2 3, .array .int), (g.2.2 4, .object R_Fr)]
def cs_cell (g : Gx) (s : CS) (k : Nat) : va_E :=
  if k = 0 then .inr (5, [.ref (g.2.1 1), .ref (g.2.1 4), .ref (g.2.1 2), .ref (g.2.1 3)])
  else if k = 1 then .inr (1, [.ref (g.2.1 8), .ref (g.2.1 9), .ref (g.2.1 10), .ref (g.2.1 11), .ref (g.2.1 12), .ref (g.2.1 13), .int (cs_I s 0)])
  else if k = 2 then .inr (4, [.ref (g.2.1 5), .ref (g.2.1 14), .int (cs_I s 1), .int (cs_I s 2), .int (cs_I s 3), .int (cs_I s 4), .int (cs_I s 5)])
  else if k = 3 then .inr (3, [.ref (g.2.1 6), .ref (g.2.1 23), .ref (g.2.1 24), .ref (g.2.1 25), .int (cs_I s 6)])
  else if k = 4 then .inr (2, [.ref (g.2.1 2), .ref (g.2.1 3), .ref (g.2.1 7), .ref (g.2.1 31), .ref (g.2.1 32), .ref (g.2.1 33), .ref (g.2.1 34)])
  else if k = 5 then .inl (g.2.2 3, 6, .inr (.inr (.inr (.inr (fun i => if i < 6 then some (g.2.1 (15 + i)) else none)))))
  else if k = 6 then .inl (g.2.2 3, 2, .inr (.inr (.inr (.inr (fun i => if i < 2 then some (g.2.1 (21 + i)) else none)))))
  else if k = 7 then .inl (g.2.2 4, 5, .inr (.inr (.inr (.inr (fun i => if i < 5 then some (g.2.1 (26 + i)) else none)))))
  else if k < 12 then .inl (g.2.2 0, 60, .inl (cs_A s (k - 8)))
  else if k < 14 then .inl (g.2.2 1, 60, .inl (cs_A s (k - 8)))
  else if k < 15 then .inl (g.2.2 1, 36, .inl (cs_A s (k - 8)))
  else if k < 21 then .inl (g.2.2 0, 6, .inl (cs_R s (k - 15)))
  else if k < 23 then .inl (g.2.2 0, 72, .inl (cs_P s (k - 21)))
  else .inr (0, [.long (cs_F s (k - 23)).1, .long (cs_F s (k - 23)).2.1, .int (cs_F s (k - 23)).2.2])
def ms_cell (g : Gx) (s : MS) (k : Nat) : va_E :=
  if k = 35 then .inr (6, [.int (ms_I s 0), .int (ms_I s 1), .ref (g.2.1 36), .ref (g.2.1 37), .ref (g.2.1 38), .ref (g.2.1 39), .ref (g.2.1 40), .ref (g.2.1 41), .ref (g.2.1 42), .ref (g.2.1 43), .ref (g.2.1 44), .int (ms_I s 2), .int (ms_I s 3), .int (ms_I s 4), .int (ms_I s 5), .int (ms_I s 6), .int (ms_I s 7), .ref (g.2.1 45), .ref (g.2.1 46), .long (ms_L s 0), .long (ms_L s 1), .int (ms_I s 8), .long (ms_L s 2), .long (ms_L s 3), .long (ms_L s 4), .long (ms_L s 5)])
  else if k < 40 then .inl (g.2.2 0, 60, .inl (ms_A s (k - 36)))
  else if k < 42 then .inl (g.2.2 1, 60, .inl (ms_A s (k - 36)))
  else if k = 42 then .inl (g.2.2 0, 144, .inl (ms_A s 6))
  else if k < 45 then .inl (g.2.2 2, 3, .inr (.inl (ms_B s (k - 43))))
  else if k = 45 then .inl (g.2.2 1, 36, .inl (ms_A s 7))
  else .inl (g.2.2 0, 36, .inl (ms_A s 8))
def cs_Rel (g : Gx) (w0 ws : va_W) (s : CS) : Prop := (∀ k, k < 35 → ws[k]? = some (g.2.1 k, cs_cell g s k)) ∧ ∀ k, 35 ≤ k → ws[k]? = w0[k]?
def ms_Rel (g : Gx) (w0 ws : va_W) (s : MS) : Prop := (∀ k, 35 ≤ k → k < 47 → ws[k]? = some (g.2.1 k, ms_cell g s k)) ∧ ∀ k, (k < 35 ∨ 47 ≤ k) → ws[k]? = w0[k]?
theorem cs_Rel.put {g : Gx} {w0 ws : va_W} {s s' : CS} {k : Nat} {e : va_E} (h : cs_Rel g w0 ws s) (hk : k < 35) (he : cs_cell g s' k = e) (ho : ∀ j, j < 35 → j ≠ k → cs_cell g s' j = cs_cell g s j) : cs_Rel g w0 (ws.set k (g.2.1 k, e)) s' := by
  have hl : k < ws.length := (List.getElem?_eq_some_iff.mp (h.1 k hk)).1
  refine ⟨fun j hj => ?_, fun j hj => ?_⟩
  · by_cases hjk : j = k
    · subst hjk
      rw [List.getElem?_set_self hl, he]
    · rw [List.getElem?_set_ne (Ne.symm hjk), h.1 j hj, ho j hj hjk]
  · rw [List.getElem?_set_ne (by omega)]
    exact h.2 j hj
theorem ms_Rel.put {g : Gx} {w0 ws : va_W} {s s' : MS} {k : Nat} {e : va_E} (h : ms_Rel g w0 ws s) (h1 : 35 ≤ k) (hk : k < 47) (he : ms_cell g s' k = e) (ho : ∀ j, 35 ≤ j → j < 47 → j ≠ k → ms_cell g s' j = ms_cell g s j) : ms_Rel g w0 (ws.set k (g.2.1 k, e)) s' := by
  have hl : k < ws.length := (List.getElem?_eq_some_iff.mp (h.1 k h1 hk)).1
  refine ⟨fun j h2 hj => ?_, fun j hj => ?_⟩
  · by_cases hjk : j = k
    · subst hjk
      rw [List.getElem?_set_self hl, he]
    · rw [List.getElem?_set_ne (Ne.symm hjk), h.1 j h2 hj, ho j h2 hj hjk]
  · rw [List.getElem?_set_ne (by omega)]
    exact h.2 j hj

/-! what of the start the good words don't say: the classes, links across the nest, casts, strings, Throwable's two statics -/
def mn_AO (U : State) : Prop := ∃ (cI cA : ClassId) (kA : Class), U.vm.findClass (FieldType.array .int).toString = some cI ∧ U.vm.classes[cA]? = some kA ∧ kA.kind = .array cI (.array .int) ∧ U.vm.findClass ("[" ++ (FieldType.array .int).toString) = some cA
theorem mn_AO.moved {u U : State} (hvm : u.vm.Alike U.vm) (h : mn_AO u) : mn_AO U := by
  obtain ⟨cI, cA, kA, h1, h2, h3, h4⟩ := h
  obtain ⟨k', hk', he⟩ := hvm.2.2 _ _ h2
  exact ⟨cI, cA, k', by rw [hvm.findClass]; exact h1, hk', by rw [he]; exact h3, by rw [hvm.findClass]; exact h4⟩
def ct_Ex (U : State) : Prop := va_AO R_Fr U ∧ mn_AO U ∧ va_Nc "java/lang/IllegalStateException" "java/lang/IllegalArgumentException" U ∧ va_Nc "java/lang/ArithmeticException" "java/lang/IllegalArgumentException" U ∧ va_Nc "java/lang/UnsupportedOperationException" "java/lang/IllegalArgumentException" U ∧ va_Nc "java/lang/UnsupportedOperationException" "java/lang/ArithmeticException" U
theorem ct_Ex.moved {u U : State} (hvm : u.vm.Alike U.vm) (h : ct_Ex u) : ct_Ex U := ⟨va_AO.moved hvm h.1, mn_AO.moved hvm h.2.1, va_Nc.moved hvm h.2.2.1, va_Nc.moved hvm h.2.2.2.1, va_Nc.moved hvm h.2.2.2.2.1, va_Nc.moved hvm h.2.2.2.2.2⟩
def ct_Ev (g : Gx) (A : Nat → Prop) (U : State) (H : Heap) : Prop := va_K g.1 kl (ct_ty g) U ∧ (∀ w ∈ NW, va_Nw w U) ∧
  (∃ sa : Nat → Nat, ∀ q ∈ ct_str, vk_R R_CT q.1 q.2 (sa q.1) U) ∧ vx_Zq Bundle.tN "UNASSIGNED_STACK" Bundle.steD A U H ∧ vx_Zq Bundle.tN "SUPPRESSED_SENTINEL" Bundle.listD A U H ∧ ct_Ex U
theorem ct_NW_moved {s U : State} (hW : s.WarmedH U.vm) : ∀ w ∈ NW, va_Nw w s → va_Nw w U := by
  intro w hw h
  have h1 := (List.mem_filter.mp hw).2
  cases w <;> first | exact va_Nw.warmF hW h | exact va_Nw.warmM hW h | exact va_Nw.warmC hW h | exact va_Nw.warmD hW h | cases h1
theorem ct_NW_same {u U : State} (e : u.vm = U.vm) : ∀ w ∈ NW, va_Nw w u → va_Nw w U := by
  intro w hw h
  have h1 := (List.mem_filter.mp hw).2
  cases w <;> first | exact va_Nw.same rfl e h | cases h1
theorem ct_Ev.go {g : Gx} {A A' : Nat → Prop} {s U : State} {H : Heap} {locs : List Loc} (h : ct_Ev g A s s.heap) (hS : va_S A s.heap H locs) (hA : ∀ q, A' q → A q) (hW : s.WarmedH U.vm) : ct_Ev g A' U H := by
  obtain ⟨h1, h2, ⟨sa, h3⟩, h4, h5, h6⟩ := h
  exact ⟨va_K.moved hW.alike h1, fun w hw => ct_NW_moved hW w hw (h2 w hw), ⟨sa, fun q hq => (h3 q hq).warm hW⟩, ((h4.kept hS.2.1).moved hW.alike).narrow hA, ((h5.kept hS.2.1).moved hW.alike).narrow hA, h6.moved hW.alike⟩
theorem ct_Ev.same {g : Gx} {A : Nat → Prop} {u U : State} {H : Heap} (e : u.vm = U.vm) (h : ct_Ev g A u H) : ct_Ev g A U H := by
  obtain ⟨h1, h2, ⟨sa, h3⟩, h4, h5, h6⟩ := h
  have ha : u.vm.Alike U.vm := e ▸ Vm.Alike.refl u.vm
  exact ⟨va_K.moved ha h1, fun w hw => ct_NW_same e w hw (h2 w hw), ⟨sa, fun q hq => (h3 q hq).same e.symm⟩, h4.moved ha, h5.moved ha, h6.moved ha⟩
/-! a contract's start and end; what is fixed through a walk; the world at a point of it -/
def ct_Pre (g : Gx) (ws : va_W) (sz : Nat) (U : State) : Prop := U.heap.size = sz ∧ va_P g.1 kl ws U.heap ∧ va_D (fun _ => True) ws ∧ ct_Ev g (va_A ws sz) U U.heap
def ct_Pst (g : Gx) (A : Nat → Prop) (u : va_W) (t : State) : Prop := va_P g.1 kl u t.heap ∧ va_D A u
theorem ct_blind {g : Gx} {ws : va_W} {sz : Nat} {As : List Value} : FrameBlind (va_Pc As (ct_Pre g ws sz)) := fun a U g' mk h => ⟨h.1, h.2.1, h.2.2.1, h.2.2.2.1, ct_Ev.same (u := U) (U := U.calling g' mk a) rfl h.2.2.2.2⟩
abbrev ct_ws (y : MethodName) (c : ByteArray) (n : Nat) (ret : Option FieldType) : List Cond := Cond.code y c n ret :: Wds
abbrev ct_MI (l : Launch) (y : MethodName) (c : ByteArray) (n : Nat) (ret : Option FieldType) (rm : Room) (g : Gx) (ws : va_W) (sz : Nat) (As : List Value) (v : Int32) (PU : va_W → Prop) : Prop := Met l y (ct_ws y c n ret) rm (va_Pc As (ct_Pre g ws sz)) (va_Qi (fun r u => r = v ∧ PU u) (ct_Pst g (va_A ws sz)) (va_A ws sz)) 0 0 (va_A ws sz)
abbrev ct_ML (l : Launch) (y : MethodName) (c : ByteArray) (n : Nat) (ret : Option FieldType) (rm : Room) (g : Gx) (ws : va_W) (sz : Nat) (As : List Value) (v : Int64) (PU : va_W → Prop) : Prop := Met l y (ct_ws y c n ret) rm (va_Pc As (ct_Pre g ws sz)) (va_Ql (fun r u => r = v ∧ PU u) (ct_Pst g (va_A ws sz)) (va_A ws sz)) 0 0 (va_A ws sz)
abbrev ct_MV (l : Launch) (y : MethodName) (c : ByteArray) (n : Nat) (ret : Option FieldType) (rm : Room) (g : Gx) (ws : va_W) (sz : Nat) (As : List Value) (PU : va_W → Prop) : Prop := Met l y (ct_ws y c n ret) rm (va_Pc As (ct_Pre g ws sz)) (va_Qv PU (ct_Pst g (va_A ws sz)) (va_A ws sz)) 0 0 (va_A ws sz)
abbrev ct_MR (l : Launch) (y : MethodName) (c : ByteArray) (n : Nat) (ret : Option FieldType) (rm : Room) (g : Gx) (ws : va_W) (sz : Nat) (As : List Value) (a : Nat) (PU : va_W → Prop) : Prop := Met l y (ct_ws y c n ret) rm (va_Pc As (ct_Pre g ws sz)) (va_Qr PU (fun u b t => b = a ∧ ct_Pst g (va_A ws sz) u t) (va_A ws sz)) 0 0 (va_A ws sz)
def ct_Cx (own : String) (cc : ByteArray) (nL : Nat) (p : Program) (s : State) (m : MethodId) (args : Array Value) (meth : Method) (c : Code) (g : Gx) (A : Nat → Prop) : Prop :=
  p.tables.exec = Jvm.exec ∧ c.code = cc ∧ c.maxLocals = nL ∧ s.vm.findClass own = some m.cls ∧ (∀ w ∈ Wds, w.before args s = true) ∧ ct_Ev g A s s.heap ∧ (∀ q, s.heap.size ≤ q → A q) ∧ meth.locks = false
def ct_Wd (g : Gx) (A : Nat → Prop) (s : State) (ws : va_W) (H : Heap) (locs : List Loc) : Prop := va_P g.1 kl ws H ∧ va_D A ws ∧ va_S A s.heap H locs
/-! a method's start -/
theorem ct_start {l : Launch} {y : MethodName} {cc : ByteArray} {nL : Nat} {ret : Option FieldType} {rm : Room} {g : Gx} {ws : va_W} {sz : Nat} {As : List Value} {Qc : Array Value → State → Outcome → State → Prop} (hy : plainName y.cls = true) (hA : (lg_sl As).length ≤ nL)
    (body : ∀ p e s m below meth c ls, ct_Cx y.cls cc nL p s m As.toArray meth c g (va_A ws sz) → meth.sig.returnType = ret → s.heap.size = sz → lv_has ls nL (lv_args 0 As) → ct_Wd g (va_A ws sz) s ws s.heap [] →
      W p l e rm s m As.toArray below meth c s.heap [] 0 0 (MQ below Qc As.toArray s 0 0 (va_A ws sz)) (F0 m 0 ls [])) : Met l y (ct_ws y cc nL ret) rm (va_Pc As (ct_Pre g ws sz)) Qc 0 0 (va_A ws sz) := by
  refine Met.ofW (cc := cc) (maxL := nL) (ret := ret) hy rfl ?_
  intro p e s m args below meth c s₁ B hml hv
  obtain ⟨rfl, hsz, hP, hD0, hE⟩ := hv
  have hts := atoms_spec (ws := ct_ws y cc nL ret) B.pre
  rw [lg_entry_eq]
  exact body p e s m below meth c _ ⟨B.exec, B.bytes, hml, findClass_of_methodNamed B.named, fun w hw => hts w (List.mem_cons_of_mem _ hw), hE, fun q hq => Or.inr (by omega), B.notSynchronized⟩ B.returns hsz (lv_entry As hA) ⟨hP, hD0.self, va_S.rf⟩
/-! the ends -/
section CTE
variable {p : Program} {l : Launch} {e : Env} {R : Room} {s : State} {m : MethodId} {args : Array Value} {below : List Frame} {meth : Method} {c : Code} {H : Heap} {locs : List Loc}
variable {own : String} {cc : ByteArray} {nL : Nat} {g : Gx} {A : Nat → Prop} {ws : va_W} {PU : va_W → Prop} {pc : Nat} {ls : Array Slot}
theorem ct_reti {v : Int32} (C0 : ct_Cx own cc nL p s m args meth c g A) (hr : meth.sig.returnType = some .int) (hw : ct_Wd g A s ws H locs) (hp : PU ws) (hdg : decode cc pc = .ok (.ireturn, 1)) : W p l e R s m args below meth c H locs 0 0 (MQ below (va_Qi (fun r u => r = v ∧ PU u) (ct_Pst g A) A) args s 0 0 A) (F0 m pc ls [.int v]) :=
  W.iret (v := v) C0.1 C0.2.1 hr (fun t ht _ => ⟨⟨v, ws, rfl, ⟨rfl, hp⟩, by rw [ht]; exact hw.1, hw.2.1⟩, hw.2.2.F ht⟩) hw.2.2.2.2 hdg C0.2.2.2.2.2.2.2
theorem ct_retz {v : Int32} (C0 : ct_Cx own cc nL p s m args meth c g A) (hr : meth.sig.returnType = some .boolean) (hn : narrow .boolean (.int v) = .int v) (hw : ct_Wd g A s ws H locs) (hp : PU ws) (hdg : decode cc pc = .ok (.ireturn, 1)) : W p l e R s m args below meth c H locs 0 0 (MQ below (va_Qi (fun r u => r = v ∧ PU u) (ct_Pst g A) A) args s 0 0 A) (F0 m pc ls [.int v]) :=
  W.zret (v := v) C0.1 C0.2.1 hr hn (fun t ht _ => ⟨⟨v, ws, rfl, ⟨rfl, hp⟩, by rw [ht]; exact hw.1, hw.2.1⟩, hw.2.2.F ht⟩) hw.2.2.2.2 hdg C0.2.2.2.2.2.2.2
theorem ct_retl {v : Int64} (C0 : ct_Cx own cc nL p s m args meth c g A) (hr : meth.sig.returnType = some .long) (hw : ct_Wd g A s ws H locs) (hp : PU ws) (hdg : decode cc pc = .ok (.lreturn, 1)) : W p l e R s m args below meth c H locs 0 0 (MQ below (va_Ql (fun r u => r = v ∧ PU u) (ct_Pst g A) A) args s 0 0 A) (F0 m pc ls [.long v]) :=
  W.lret (v := v) C0.1 C0.2.1 hr (fun t ht _ => ⟨⟨v, ws, rfl, ⟨rfl, hp⟩, by rw [ht]; exact hw.1, hw.2.1⟩, hw.2.2.F ht⟩) hw.2.2.2.2 hdg C0.2.2.2.2.2.2.2
theorem ct_retv (C0 : ct_Cx own cc nL p s m args meth c g A) (hr : meth.sig.returnType = none) (hw : ct_Wd g A s ws H locs) (hp : PU ws) (hdg : decode cc pc = .ok (.return_, 1)) : W p l e R s m args below meth c H locs 0 0 (MQ below (va_Qv PU (ct_Pst g A) A) args s 0 0 A) (F0 m pc ls []) :=
  W.vret C0.1 C0.2.1 hr (fun t ht _ => ⟨⟨ws, rfl, hp, by rw [ht]; exact hw.1, hw.2.1⟩, hw.2.2.F ht⟩) hw.2.2.2.2 hdg C0.2.2.2.2.2.2.2
theorem ct_reta {a : Nat} {C : String} (C0 : ct_Cx own cc nL p s m args meth c g A) (hr : meth.sig.returnType = some (.object C)) (hw : ct_Wd g A s ws H locs) (hp : PU ws) (hdg : decode cc pc = .ok (.areturn, 1)) : W p l e R s m args below meth c H locs 0 0 (MQ below (va_Qr PU (fun u b t => b = a ∧ ct_Pst g A u t) A) args s 0 0 A) (F0 m pc ls [.ref a]) :=
  W.aret (v := .ref a) C0.1 C0.2.1 hr (Or.inl ⟨_, rfl⟩) (Or.inr ⟨_, rfl⟩) (fun t ht _ => ⟨⟨ws, a, rfl, hp, rfl, by rw [ht]; exact hw.1, hw.2.1⟩, hw.2.2.F ht⟩) hw.2.2.2.2 hdg C0.2.2.2.2.2.2.2
end CTE
/-! calls -/
theorem cs_Rel.trans {g : Gx} {w0 ws u : va_W} {s s' : CS} (h1 : cs_Rel g w0 ws s) (h2 : cs_Rel g ws u s') : cs_Rel g w0 u s' := ⟨h2.1, fun k hk => (h2.2 k hk).trans (h1.2 k hk)⟩
theorem ms_Rel.trans {g : Gx} {w0 ws u : va_W} {s s' : MS} (h1 : ms_Rel g w0 ws s) (h2 : ms_Rel g ws u s') : ms_Rel g w0 u s' := ⟨h2.1, fun k hk => (h2.2 k hk).trans (h1.2 k hk)⟩
theorem cs_Rel.rf {g : Gx} {w0 ws : va_W} {s : CS} (h : cs_Rel g w0 ws s) : cs_Rel g ws ws s := ⟨h.1, fun _ _ => rfl⟩
theorem ms_Rel.rf {g : Gx} {w0 ws : va_W} {s : MS} (h : ms_Rel g w0 ws s) : ms_Rel g ws ws s := ⟨h.1, fun _ _ => rfl⟩
theorem ct_gi {ws : List Cond} (h : ∀ w ∈ ws, w ∈ Wds) : GoodIn Wds ws := fun w hw => ⟨h w hw, good_of_word (List.mem_filter.mp (h w hw)).2⟩
theorem ct_giV {own C : String} {idx n : Nat} {y : MethodName} {c : ByteArray} {r : Option FieldType} (h1 : Cond.methodLink own idx y ∈ Wds) (h2 : Cond.instanceMethod y ∈ Wds) (h3 : Cond.selects C y y ∈ Wds) (h4 : Cond.initialized C ∈ Wds) (h5 : Cond.code y c n r ∈ Wds) : GoodIn Wds (wsV own idx C y (ct_ws y c n r)) := ct_gi (fun w h => by
  simp only [wsV, ct_ws, List.cons_append, List.nil_append, List.mem_cons] at h
  rcases h with rfl | rfl | rfl | rfl | rfl | h <;> assumption)
theorem ct_giS {own : String} {idx n : Nat} {y : MethodName} {c : ByteArray} {r : Option FieldType} (h1 : Cond.methodLink own idx y ∈ Wds) (h2 : Cond.static y ∈ Wds) (h4 : Cond.initialized y.cls ∈ Wds) (h5 : Cond.code y c n r ∈ Wds) : GoodIn Wds (va_wsS own idx y (ct_ws y c n r)) := ct_gi (fun w h => by
  simp only [va_wsS, ct_ws, List.cons_append, List.nil_append, List.mem_cons] at h
  rcases h with rfl | rfl | rfl | rfl | h <;> assumption)
section CTC
variable {p : Program} {l : Launch} {e : Env} {R : Room} {s : State} {m : MethodId} {args : Array Value} {below : List Frame} {meth : Method} {c : Code} {H : Heap} {locs : List Loc} {cells slots : Nat} {Q : State → Prop}
variable {own : String} {cc : ByteArray} {nL : Nat} {g : Gx} {A : Nat → Prop} {ws : va_W} {PU : va_W → Prop} {pc : Nat} {ls : Array Slot} {As rest st0 : List Value}
variable {y : MethodName} {cY : ByteArray} {nY index nA : Nat} {ret : Option FieldType} {rm : Room}
theorem ct_fr (hA : ∀ q, s.heap.size ≤ q → A q) (hw : ct_Wd g A s ws H locs) : ∀ q, va_A ws H.size q → A q := by
  intro q h
  rcases h with ⟨k, e, h⟩ | h
  · exact hw.2.1.2 k (q, e) h
  · exact hA q (Nat.le_trans hw.2.2.1 h)
theorem ct_pr (C0 : ct_Cx own cc nL p s m args meth c g A) (hw : ct_Wd g A s ws H locs) : ∀ U : State, U.heap = H → s.WarmedH U.vm → va_Pc As (ct_Pre g ws H.size) As.toArray U := fun U hU hW =>
  ⟨rfl, by rw [hU], by rw [hU]; exact hw.1, hw.2.1.weaken (fun _ _ _ _ => trivial), by rw [hU]; exact C0.2.2.2.2.2.1.go hw.2.2 (ct_fr C0.2.2.2.2.2.2.1 hw) hW⟩
theorem ct_bk (hA : ∀ q, s.heap.size ≤ q → A q) (hw : ct_Wd g A s ws H locs) {u : va_W} {t : State} {H1 : Heap} {locs1 : List Loc} (ht : t.heap = H1) (hB : ct_Pst g (va_A ws H.size) u t) (hS : va_S A s.heap H1 locs1) : ct_Wd g A s u H1 locs1 :=
  ⟨by rw [← ht]; exact hB.1, hB.2.weaken (fun _ q _ h => ct_fr hA hw q.1 h), hS⟩
theorem ct_callSi {v : Int32} (C0 : ct_Cx own cc nL p s m args meth c g A) (hw : ct_Wd g A s ws H locs) (hls : ls.size = nL) (hG : GoodIn Wds (va_wsS own index y (ct_ws y cY nY ret))) (hM : ∀ sz, ct_MI l y cY nY ret rm g ws sz As v PU)
    (hd : y.cls ≠ "java/lang/invoke/MethodHandle" ∧ y.cls ≠ "java/lang/invoke/VarHandle" ∧ (parseMethodDescriptor y.desc).map (fun d => d.parameters.length) = some nA) (hnA : As.length = nA) (hrm : rm.cells = 0 ∧ rm.slots = 0) (hR : rm.frames + 1 ≤ R.frames ∧ 8 + (nY + 11) + rm.locals ≤ R.locals) (hc : cells + 0 ≤ R.cells ∧ slots + 0 ≤ R.slots) (hst : st0 = As.reverse ++ rest) (hrest : (rest.map fun v => v.category).sum ≤ 8) (hdg : decode cc pc = .ok (.invokestatic index, 3))
    (kk : ∀ (ws : va_W) (H : Heap) (locs : List Loc), ct_Wd g A s ws H locs → PU ws → W p l e R s m args below meth c H locs cells slots Q (F0 m (pc + 3) ls (.int v :: rest))) : W p l e R s m args below meth c H locs cells slots Q (F0 m pc ls st0) := by
  refine va_calli (va_runS (As := As) (rest := rest) ⟨C0.1, C0.2.1, C0.2.2.1, C0.2.2.2.1, C0.2.2.2.2.1⟩ (hM H.size) (va_cwS nA C0.2.2.2.2.1 hG rfl hrm.1 hrm.2 hd hR) ⟨ct_blind, ct_pr C0 hw⟩ rfl hnA hls hst (lv_room hrest) hdg hc) hw.2.2 (fun q _ h => ct_fr C0.2.2.2.2.2.2.1 hw q h) (ct_fr C0.2.2.2.2.2.2.1 hw) (fun r u t H1 locs1 ht _ hp hB _ _ hS => ?_)
  obtain ⟨rfl, hp⟩ := hp
  exact kk u H1 locs1 (ct_bk C0.2.2.2.2.2.2.1 hw ht hB hS) hp
theorem ct_callSl {v : Int64} (C0 : ct_Cx own cc nL p s m args meth c g A) (hw : ct_Wd g A s ws H locs) (hls : ls.size = nL) (hG : GoodIn Wds (va_wsS own index y (ct_ws y cY nY ret))) (hM : ∀ sz, ct_ML l y cY nY ret rm g ws sz As v PU)
    (hd : y.cls ≠ "java/lang/invoke/MethodHandle" ∧ y.cls ≠ "java/lang/invoke/VarHandle" ∧ (parseMethodDescriptor y.desc).map (fun d => d.parameters.length) = some nA) (hnA : As.length = nA) (hrm : rm.cells = 0 ∧ rm.slots = 0) (hR : rm.frames + 1 ≤ R.frames ∧ 8 + (nY + 11) + rm.locals ≤ R.locals) (hc : cells + 0 ≤ R.cells ∧ slots + 0 ≤ R.slots) (hst : st0 = As.reverse ++ rest) (hrest : (rest.map fun v => v.category).sum ≤ 8) (hdg : decode cc pc = .ok (.invokestatic index, 3))
    (kk : ∀ (ws : va_W) (H : Heap) (locs : List Loc), ct_Wd g A s ws H locs → PU ws → W p l e R s m args below meth c H locs cells slots Q (F0 m (pc + 3) ls (.long v :: rest))) : W p l e R s m args below meth c H locs cells slots Q (F0 m pc ls st0) := by
  refine va_calll (va_runS (As := As) (rest := rest) ⟨C0.1, C0.2.1, C0.2.2.1, C0.2.2.2.1, C0.2.2.2.2.1⟩ (hM H.size) (va_cwS nA C0.2.2.2.2.1 hG rfl hrm.1 hrm.2 hd hR) ⟨ct_blind, ct_pr C0 hw⟩ rfl hnA hls hst (lv_room hrest) hdg hc) hw.2.2 (fun q _ h => ct_fr C0.2.2.2.2.2.2.1 hw q h) (ct_fr C0.2.2.2.2.2.2.1 hw) (fun r u t H1 locs1 ht _ hp hB _ _ hS => ?_)
  obtain ⟨rfl, hp⟩ := hp
  exact kk u H1 locs1 (ct_bk C0.2.2.2.2.2.2.1 hw ht hB hS) hp
variable {b q0 ci N : Nat} {C : String} {T : u_T} {fs : List Value}
theorem ct_callVi {v : Int32} (C0 : ct_Cx own cc nL p s m args meth c g A) (hw : ct_Wd g A s ws H locs) (hls : ls.size = nL) (he : ws[q0]? = some (b, .inr (ci, fs))) (hcl : kl[ci]? = some (C, T, N)) (hG : GoodIn Wds (wsV own index C y (ct_ws y cY nY ret))) (hM : ∀ sz, ct_MI l y cY nY ret rm g ws sz (.ref b :: As) v PU)
    (hd : y.cls = C ∧ y.cls ≠ "java/lang/invoke/MethodHandle" ∧ y.cls ≠ "java/lang/invoke/VarHandle" ∧ (parseMethodDescriptor y.desc).map (fun d => d.parameters.length) = some nA) (hnA : As.length = nA) (hrm : rm.cells = 0 ∧ rm.slots = 0) (hR : rm.frames + 1 ≤ R.frames ∧ 8 + (nY + 11) + rm.locals ≤ R.locals) (hc : cells + 0 ≤ R.cells ∧ slots + 0 ≤ R.slots) (hst : st0 = As.reverse ++ .ref b :: rest) (hrest : (rest.map fun v => v.category).sum ≤ 8) (hdg : decode cc pc = .ok (.invokevirtual index, 3))
    (kk : ∀ (ws : va_W) (H : Heap) (locs : List Loc), ct_Wd g A s ws H locs → PU ws → W p l e R s m args below meth c H locs cells slots Q (F0 m (pc + 3) ls (.int v :: rest))) : W p l e R s m args below meth c H locs cells slots Q (F0 m pc ls st0) := by
  refine va_calli (va_runV (As := As) (rest := rest) ⟨C0.1, C0.2.1, C0.2.2.1, C0.2.2.2.1, C0.2.2.2.2.1⟩ (hM H.size) (cwV nA C0.2.2.2.2.1 hG rfl hrm.1 hrm.2 hd hR) ⟨ct_blind, va_recv C0.2.2.2.2.2.1.1 hw.1 hcl he, ct_pr C0 hw⟩ rfl hnA hls hst (lv_room hrest) hdg hc) hw.2.2 (fun q _ h => ct_fr C0.2.2.2.2.2.2.1 hw q h) (ct_fr C0.2.2.2.2.2.2.1 hw) (fun r u t H1 locs1 ht _ hp hB _ _ hS => ?_)
  obtain ⟨rfl, hp⟩ := hp
  exact kk u H1 locs1 (ct_bk C0.2.2.2.2.2.2.1 hw ht hB hS) hp
theorem ct_callVl {v : Int64} (C0 : ct_Cx own cc nL p s m args meth c g A) (hw : ct_Wd g A s ws H locs) (hls : ls.size = nL) (he : ws[q0]? = some (b, .inr (ci, fs))) (hcl : kl[ci]? = some (C, T, N)) (hG : GoodIn Wds (wsV own index C y (ct_ws y cY nY ret))) (hM : ∀ sz, ct_ML l y cY nY ret rm g ws sz (.ref b :: As) v PU)
    (hd : y.cls = C ∧ y.cls ≠ "java/lang/invoke/MethodHandle" ∧ y.cls ≠ "java/lang/invoke/VarHandle" ∧ (parseMethodDescriptor y.desc).map (fun d => d.parameters.length) = some nA) (hnA : As.length = nA) (hrm : rm.cells = 0 ∧ rm.slots = 0) (hR : rm.frames + 1 ≤ R.frames ∧ 8 + (nY + 11) + rm.locals ≤ R.locals) (hc : cells + 0 ≤ R.cells ∧ slots + 0 ≤ R.slots) (hst : st0 = As.reverse ++ .ref b :: rest) (hrest : (rest.map fun v => v.category).sum ≤ 8) (hdg : decode cc pc = .ok (.invokevirtual index, 3))
    (kk : ∀ (ws : va_W) (H : Heap) (locs : List Loc), ct_Wd g A s ws H locs → PU ws → W p l e R s m args below meth c H locs cells slots Q (F0 m (pc + 3) ls (.long v :: rest))) : W p l e R s m args below meth c H locs cells slots Q (F0 m pc ls st0) := by
  refine va_calll (va_runV (As := As) (rest := rest) ⟨C0.1, C0.2.1, C0.2.2.1, C0.2.2.2.1, C0.2.2.2.2.1⟩ (hM H.size) (cwV nA C0.2.2.2.2.1 hG rfl hrm.1 hrm.2 hd hR) ⟨ct_blind, va_recv C0.2.2.2.2.2.1.1 hw.1 hcl he, ct_pr C0 hw⟩ rfl hnA hls hst (lv_room hrest) hdg hc) hw.2.2 (fun q _ h => ct_fr C0.2.2.2.2.2.2.1 hw q h) (ct_fr C0.2.2.2.2.2.2.1 hw) (fun r u t H1 locs1 ht _ hp hB _ _ hS => ?_)
  obtain ⟨rfl, hp⟩ := hp
  exact kk u H1 locs1 (ct_bk C0.2.2.2.2.2.2.1 hw ht hB hS) hp
theorem ct_callVv (C0 : ct_Cx own cc nL p s m args meth c g A) (hw : ct_Wd g A s ws H locs) (hls : ls.size = nL) (he : ws[q0]? = some (b, .inr (ci, fs))) (hcl : kl[ci]? = some (C, T, N)) (hG : GoodIn Wds (wsV own index C y (ct_ws y cY nY ret))) (hM : ∀ sz, ct_MV l y cY nY ret rm g ws sz (.ref b :: As) PU)
    (hd : y.cls = C ∧ y.cls ≠ "java/lang/invoke/MethodHandle" ∧ y.cls ≠ "java/lang/invoke/VarHandle" ∧ (parseMethodDescriptor y.desc).map (fun d => d.parameters.length) = some nA) (hnA : As.length = nA) (hrm : rm.cells = 0 ∧ rm.slots = 0) (hR : rm.frames + 1 ≤ R.frames ∧ 8 + (nY + 11) + rm.locals ≤ R.locals) (hc : cells + 0 ≤ R.cells ∧ slots + 0 ≤ R.slots) (hst : st0 = As.reverse ++ .ref b :: rest) (hrest : (rest.map fun v => v.category).sum ≤ 8) (hdg : decode cc pc = .ok (.invokevirtual index, 3))
    (kk : ∀ (ws : va_W) (H : Heap) (locs : List Loc), ct_Wd g A s ws H locs → PU ws → W p l e R s m args below meth c H locs cells slots Q (F0 m (pc + 3) ls rest)) : W p l e R s m args below meth c H locs cells slots Q (F0 m pc ls st0) := by
  refine va_callv (va_runV (As := As) (rest := rest) ⟨C0.1, C0.2.1, C0.2.2.1, C0.2.2.2.1, C0.2.2.2.2.1⟩ (hM H.size) (cwV nA C0.2.2.2.2.1 hG rfl hrm.1 hrm.2 hd hR) ⟨ct_blind, va_recv C0.2.2.2.2.2.1.1 hw.1 hcl he, ct_pr C0 hw⟩ rfl hnA hls hst (lv_room hrest) hdg hc) hw.2.2 (fun q _ h => ct_fr C0.2.2.2.2.2.2.1 hw q h) (ct_fr C0.2.2.2.2.2.2.1 hw) (fun u t H1 locs1 ht _ hp hB _ _ hS => ?_)
  exact kk u H1 locs1 (ct_bk C0.2.2.2.2.2.2.1 hw ht hB hS) hp
theorem ct_callVr {a : Nat} (C0 : ct_Cx own cc nL p s m args meth c g A) (hw : ct_Wd g A s ws H locs) (hls : ls.size = nL) (he : ws[q0]? = some (b, .inr (ci, fs))) (hcl : kl[ci]? = some (C, T, N)) (hG : GoodIn Wds (wsV own index C y (ct_ws y cY nY ret))) (hM : ∀ sz, ct_MR l y cY nY ret rm g ws sz (.ref b :: As) a PU)
    (hd : y.cls = C ∧ y.cls ≠ "java/lang/invoke/MethodHandle" ∧ y.cls ≠ "java/lang/invoke/VarHandle" ∧ (parseMethodDescriptor y.desc).map (fun d => d.parameters.length) = some nA) (hnA : As.length = nA) (hrm : rm.cells = 0 ∧ rm.slots = 0) (hR : rm.frames + 1 ≤ R.frames ∧ 8 + (nY + 11) + rm.locals ≤ R.locals) (hc : cells + 0 ≤ R.cells ∧ slots + 0 ≤ R.slots) (hst : st0 = As.reverse ++ .ref b :: rest) (hrest : (rest.map fun v => v.category).sum ≤ 8) (hdg : decode cc pc = .ok (.invokevirtual index, 3))
    (kk : ∀ (ws : va_W) (H : Heap) (locs : List Loc), ct_Wd g A s ws H locs → PU ws → W p l e R s m args below meth c H locs cells slots Q (F0 m (pc + 3) ls (.ref a :: rest))) : W p l e R s m args below meth c H locs cells slots Q (F0 m pc ls st0) := by
  refine va_callr (va_runV (As := As) (rest := rest) ⟨C0.1, C0.2.1, C0.2.2.1, C0.2.2.2.1, C0.2.2.2.2.1⟩ (hM H.size) (cwV nA C0.2.2.2.2.1 hG rfl hrm.1 hrm.2 hd hR) ⟨ct_blind, va_recv C0.2.2.2.2.2.1.1 hw.1 hcl he, ct_pr C0 hw⟩ rfl hnA hls hst (lv_room hrest) hdg hc) hw.2.2 (fun q _ h => ct_fr C0.2.2.2.2.2.2.1 hw q h) (ct_fr C0.2.2.2.2.2.2.1 hw) (fun u ra t H1 locs1 ht _ hp hB _ _ hS => ?_)
  obtain ⟨rfl, hB⟩ := hB
  exact kk u H1 locs1 (ct_bk C0.2.2.2.2.2.2.1 hw ht hB hS) hp
end CTC
/-! methods that may throw: o is what the pure function says, thrown (number, state) or returned -/
def ct_exn (k : Nat) : String := if k = 1 then "java/lang/IllegalArgumentException" else if k = 2 then "java/lang/IllegalStateException" else if k = 3 then "java/lang/ArithmeticException" else "java/lang/UnsupportedOperationException"
abbrev ct_XX {α : Type} (g : Gx) (ws : va_W) (A : Nat → Prop) (o : (Nat × CS) ⊕ α) : String → State → State → Prop := vx_X (fun _ : va_W => True) (fun E u t => (∃ k s1, o = .inl (k, s1) ∧ E = ct_exn k ∧ cs_Rel g ws u s1) ∧ ct_Pst g A u t) A
abbrev ct_XI (l : Launch) (y : MethodName) (c : ByteArray) (n : Nat) (ret : Option FieldType) (rm : Room) (g : Gx) (ws : va_W) (sz : Nat) (As : List Value) (o : (Nat × CS) ⊕ (Int32 × CS)) (mc ms : Nat) : Prop := vx_Met l y (ct_ws y c n ret) rm (va_Pc As (ct_Pre g ws sz)) (va_Qi (fun r u => ∃ s1, o = .inr (r, s1) ∧ cs_Rel g ws u s1) (ct_Pst g (va_A ws sz)) (va_A ws sz)) (ct_XX g ws (va_A ws sz) o) mc ms (va_A ws sz)
abbrev ct_XL (l : Launch) (y : MethodName) (c : ByteArray) (n : Nat) (ret : Option FieldType) (rm : Room) (g : Gx) (ws : va_W) (sz : Nat) (As : List Value) (o : (Nat × CS) ⊕ (Int64 × CS)) (mc ms : Nat) : Prop := vx_Met l y (ct_ws y c n ret) rm (va_Pc As (ct_Pre g ws sz)) (va_Ql (fun r u => ∃ s1, o = .inr (r, s1) ∧ cs_Rel g ws u s1) (ct_Pst g (va_A ws sz)) (va_A ws sz)) (ct_XX g ws (va_A ws sz) o) mc ms (va_A ws sz)
abbrev ct_XV (l : Launch) (y : MethodName) (c : ByteArray) (n : Nat) (ret : Option FieldType) (rm : Room) (g : Gx) (ws : va_W) (sz : Nat) (As : List Value) (o : (Nat × CS) ⊕ CS) (mc ms : Nat) : Prop := vx_Met l y (ct_ws y c n ret) rm (va_Pc As (ct_Pre g ws sz)) (va_Qv (fun u => ∃ s1, o = .inr s1 ∧ cs_Rel g ws u s1) (ct_Pst g (va_A ws sz)) (va_A ws sz)) (ct_XX g ws (va_A ws sz) o) mc ms (va_A ws sz)
theorem ct_startX {l : Launch} {y : MethodName} {cc : ByteArray} {nL mc ms : Nat} {ret : Option FieldType} {rm : Room} {g : Gx} {ws : va_W} {sz : Nat} {As : List Value} {Qc : Array Value → State → Outcome → State → Prop} {XC : String → State → State → Prop} (hy : plainName y.cls = true) (hA : (lg_sl As).length ≤ nL)
    (body : ∀ p e s m below meth c ls, ct_Cx y.cls cc nL p s m As.toArray meth c g (va_A ws sz) → meth.sig.returnType = ret → s.heap.size = sz → (∀ x ∈ c.exceptionTable.toList, False) → lv_has ls nL (lv_args 0 As) → ct_Wd g (va_A ws sz) s ws s.heap [] →
      W p l e rm s m As.toArray below meth c s.heap [] 0 0 (vx_MQ below Qc XC As.toArray s mc ms (va_A ws sz)) (F0 m 0 ls [])) : vx_Met l y (ct_ws y cc nL ret) rm (va_Pc As (ct_Pre g ws sz)) Qc XC mc ms (va_A ws sz) := by
  refine vx_ofW (cc := cc) (maxL := nL) (ret := ret) hy rfl ?_
  intro p e s m args below meth c s₁ B hml hex hv
  obtain ⟨rfl, hsz, hP, hD0, hE⟩ := hv
  have hts := atoms_spec (ws := ct_ws y cc nL ret) B.pre
  rw [lg_entry_eq]
  exact body p e s m below meth c _ ⟨B.exec, B.bytes, hml, findClass_of_methodNamed B.named, fun w hw => hts w (List.mem_cons_of_mem _ hw), hE, fun q hq => Or.inr (by omega), B.notSynchronized⟩ B.returns hsz hex (lv_entry As hA) ⟨hP, hD0.self, va_S.rf⟩
theorem ct_NW_use {s : State} {args : Array Value} : ∀ w ∈ NW, va_Nw w s → w.before args s = true := by
  intro w hw h
  have h1 := (List.mem_filter.mp hw).2
  cases w <;> first | exact va_Nw.use rfl h | cases h1
section CTX
variable {p : Program} {l : Launch} {e : Env} {R : Room} {s : State} {m : MethodId} {args : Array Value} {below : List Frame} {meth : Method} {c : Code} {H : Heap} {locs : List Loc} {cells slots : Nat} {Q : State → Prop}
variable {own : String} {cc : ByteArray} {nL : Nat} {g : Gx} {A : Nat → Prop} {w0 ws : va_W} {pc : Nat} {ls : Array Slot} {As rest st0 : List Value} {mc ms mcY msY : Nat} {XC : String → State → State → Prop} {Qc : Array Value → State → Outcome → State → Prop}
variable {y : MethodName} {cY : ByteArray} {nY index nA : Nat} {ret : Option FieldType} {rm : Room} {α : Type}
theorem ct_xreti {o : (Nat × CS) ⊕ (Int32 × CS)} {v : Int32} (C0 : ct_Cx own cc nL p s m args meth c g A) (hr : meth.sig.returnType = some .int) (hw : ct_Wd g A s ws H locs) (hp : ∃ s1, o = .inr (v, s1) ∧ cs_Rel g w0 ws s1) (hc : cells ≤ mc) (hs : slots ≤ ms) (hdg : decode cc pc = .ok (.ireturn, 1)) : W p l e R s m args below meth c H locs cells slots (vx_MQ below (va_Qi (fun r u => ∃ s1, o = .inr (r, s1) ∧ cs_Rel g w0 u s1) (ct_Pst g A) A) XC args s mc ms A) (F0 m pc ls [.int v]) :=
  W.widen hc hs (vx_ret (W.iret (v := v) C0.1 C0.2.1 hr (fun t ht _ => ⟨⟨v, ws, rfl, hp, by rw [ht]; exact hw.1, hw.2.1⟩, hw.2.2.F ht⟩) hw.2.2.2.2 hdg C0.2.2.2.2.2.2.2))
theorem ct_xretl {o : (Nat × CS) ⊕ (Int64 × CS)} {v : Int64} (C0 : ct_Cx own cc nL p s m args meth c g A) (hr : meth.sig.returnType = some .long) (hw : ct_Wd g A s ws H locs) (hp : ∃ s1, o = .inr (v, s1) ∧ cs_Rel g w0 ws s1) (hc : cells ≤ mc) (hs : slots ≤ ms) (hdg : decode cc pc = .ok (.lreturn, 1)) : W p l e R s m args below meth c H locs cells slots (vx_MQ below (va_Ql (fun r u => ∃ s1, o = .inr (r, s1) ∧ cs_Rel g w0 u s1) (ct_Pst g A) A) XC args s mc ms A) (F0 m pc ls [.long v]) :=
  W.widen hc hs (vx_ret (W.lret (v := v) C0.1 C0.2.1 hr (fun t ht _ => ⟨⟨v, ws, rfl, hp, by rw [ht]; exact hw.1, hw.2.1⟩, hw.2.2.F ht⟩) hw.2.2.2.2 hdg C0.2.2.2.2.2.2.2))
theorem ct_xretv {o : (Nat × CS) ⊕ CS} (C0 : ct_Cx own cc nL p s m args meth c g A) (hr : meth.sig.returnType = none) (hw : ct_Wd g A s ws H locs) (hp : ∃ s1, o = .inr s1 ∧ cs_Rel g w0 ws s1) (hc : cells ≤ mc) (hs : slots ≤ ms) (hdg : decode cc pc = .ok (.return_, 1)) : W p l e R s m args below meth c H locs cells slots (vx_MQ below (va_Qv (fun u => ∃ s1, o = .inr s1 ∧ cs_Rel g w0 u s1) (ct_Pst g A) A) XC args s mc ms A) (F0 m pc ls []) :=
  W.widen hc hs (vx_ret (W.vret C0.1 C0.2.1 hr (fun t ht _ => ⟨⟨ws, rfl, hp, by rw [ht]; exact hw.1, hw.2.1⟩, hw.2.2.F ht⟩) hw.2.2.2.2 hdg C0.2.2.2.2.2.2.2))
theorem ct_xout {o : (Nat × CS) ⊕ α} {E : String} {ce : Cell} {q : Addr} {k : Nat} {s1 : CS} (C0 : ct_Cx own cc nL p s m args meth c g A) (hex : ∀ x ∈ c.exceptionTable.toList, False) (hw : ct_Wd g A s ws H locs) (ho : o = .inl (k, s1)) (hE : E = ct_exn k) (hR : cs_Rel g w0 ws s1) (hcell : H[q]? = some ce) (hv : ce.vm = .none) (hcl : s.vm.findClass E = some ce.cls) (hc : cells ≤ mc) (hs : slots ≤ ms) :
    vx_W p l e R s m args below meth c H locs cells slots (vx_MQ below Qc (ct_XX g w0 A o) args s mc ms A) (F0 m pc ls rest) q :=
  vx_out (fun x hx => (hex x hx).elim) C0.2.2.2.2.2.2.2 hcell hv hcl (fun t ht _ => ⟨ws, trivial, ⟨⟨k, s1, ho, hE, hR⟩, by rw [ht]; exact hw.1, hw.2.1⟩, hw.2.2.F ht⟩) hw.2.2.2.2 hc hs
theorem ct_throw {o : (Nat × CS) ⊕ α} {st : CS} {X : String} {k ik is ic : Nat} {text : String} (hl0 : l.stackTraces = false) (C0 : ct_Cx R_CT cc nL p s m args meth c g A) (hex : ∀ x ∈ c.exceptionTable.toList, False) (hls : ls.size = nL) (hw : ct_Wd g A s ws H locs) (hR : cs_Rel g w0 ws st) (ho : o = .inl (k, st)) (hX : X = ct_exn k) (hfit : Bundle.fit X = true)
    (hk : Cond.classLink R_CT ik X ∈ Wds) (hini : Cond.initialized X ∈ Wds) (hq : (is, text) ∈ ct_str) (ha1 : ∀ w ∈ (vx_atS R_CT ic X ["java/lang/RuntimeException", "java/lang/Exception"]).filter goodWord, w ∈ Wds) (ha2 : ∀ w ∈ (vx_atS R_CT ic X ["java/lang/RuntimeException", "java/lang/Exception"]).filter (fun w => !goodWord w), w ∈ NW)
    (hgood : ∀ w ∈ Cond.classLink R_CT ik X :: Cond.initialized X :: vx_atS R_CT ic X ["java/lang/RuntimeException", "java/lang/Exception"], vx_ot w = true)
    (d0 : decode cc pc = .ok (.new ik, 3)) (d3 : decode cc (pc + 3) = .ok (.dup, 1)) (d4 : decode cc (pc + 4) = .ok (.ldc is, 2)) (d6 : decode cc (pc + 6) = .ok (.invokespecial ic, 3)) (d9 : decode cc (pc + 9) = .ok (.athrow, 1))
    (hRf : 5 < R.frames) (hRl : (rest.map fun v => v.category).sum + 82 ≤ R.locals) (hRc : cells + 1 ≤ R.cells) (hRs : slots + 6 ≤ R.slots) (hc : cells + 1 ≤ mc) (hs : slots + 6 ≤ ms) :
    W p l e R s m args below meth c H locs cells slots (vx_MQ below Qc (ct_XX g w0 A o) args s mc ms A) (F0 m pc ls rest) := by
  obtain ⟨h1, h2, ⟨sa, h3⟩, h4, h5, -⟩ := C0.2.2.2.2.2.1
  refine vx_throwS (names := ["java/lang/RuntimeException", "java/lang/Exception"]) C0.1 C0.2.1 hl0 C0.2.2.2.1 hfit (by decide +kernel) (C0.2.2.2.2.1 _ hk) (C0.2.2.2.2.1 _ hini) (h3 _ hq) (vx_hat (fun w hw => C0.2.2.2.2.1 w (ha1 w hw)) ha2 (fun w hw => ct_NW_use w hw (h2 w hw))) hgood h4 h5 hw.2.2 (hls.trans C0.2.2.1.symm) d0 d3 d4 d6 d9 (fun x hx => (hex x hx).elim) hRf hRl hRc hRs C0.2.2.2.2.2.2.2 (fun t _ hsz hold => ?_) hw.2.2.2.2 hc hs
  exact ⟨ws, trivial, ⟨⟨k, st, ho, hX, hR⟩, hw.1.kept (fun j q hj => hold q.1 ((hw.1 j q hj).lt)), hw.2.1⟩, Nat.le_trans hw.2.2.1 hsz, fun q q1 q2 => (hold q (Nat.lt_of_lt_of_le q1 hw.2.2.1)).trans (hw.2.2.2.1 q q1 q2)⟩
theorem ct_callSXv {o : (Nat × CS) ⊕ CS} (C0 : ct_Cx own cc nL p s m args meth c g A) (hw : ct_Wd g A s ws H locs) (hls : ls.size = nL) (hG : GoodIn Wds (va_wsS own index y (ct_ws y cY nY ret))) (hM : ∀ sz, ct_XV l y cY nY ret rm g ws sz As o mcY msY)
    (hd : y.cls ≠ "java/lang/invoke/MethodHandle" ∧ y.cls ≠ "java/lang/invoke/VarHandle" ∧ (parseMethodDescriptor y.desc).map (fun d => d.parameters.length) = some nA) (hnA : As.length = nA) (hrm : rm.cells = mcY ∧ rm.slots = msY) (hR : rm.frames + 1 ≤ R.frames ∧ 8 + (nY + 11) + rm.locals ≤ R.locals) (hc : cells + mcY ≤ R.cells ∧ slots + msY ≤ R.slots) (hst : st0 = As.reverse ++ rest) (hrest : (rest.map fun v => v.category).sum ≤ 8) (hdg : decode cc pc = .ok (.invokestatic index, 3))
    (kx : ∀ (E : String) (ce : Cell) (q9 : Addr) (ws1 : va_W) (H : Heap) (locs : List Loc) (k : Nat) (s1 : CS), ct_Wd g A s ws1 H locs → o = .inl (k, s1) → E = ct_exn k → cs_Rel g ws ws1 s1 → H[q9]? = some ce → ce.vm = .none → s.vm.findClass E = some ce.cls → vx_W p l e R s m args below meth c H locs (cells + mcY) (slots + msY) Q (F0 m pc ls rest) q9)
    (kk : ∀ (ws1 : va_W) (H : Heap) (locs : List Loc) (s1 : CS), ct_Wd g A s ws1 H locs → o = .inr s1 → cs_Rel g ws ws1 s1 → W p l e R s m args below meth c H locs (cells + mcY) (slots + msY) Q (F0 m (pc + 3) ls rest)) : W p l e R s m args below meth c H locs cells slots Q (F0 m pc ls st0) := by
  refine vx_callv (vx_runS (As := As) (rest := rest) ⟨C0.1, C0.2.1, C0.2.2.1, C0.2.2.2.1, C0.2.2.2.2.1⟩ (hM H.size) (va_cwS nA C0.2.2.2.2.1 hG rfl hrm.1 hrm.2 hd hR) ⟨ct_blind, ct_pr C0 hw⟩ rfl hnA hls hst (lv_room hrest) hdg hc) hw.2.2 (fun q _ h => ct_fr C0.2.2.2.2.2.2.1 hw q h) (ct_fr C0.2.2.2.2.2.2.1 hw) (fun q _ h => ct_fr C0.2.2.2.2.2.2.1 hw q h) (fun E ce q9 u t H1 locs1 ht _ _ hB _ _ hS h1 h2 h3 => ?_) (fun u t H1 locs1 ht _ hp hB _ _ hS => ?_)
  · obtain ⟨⟨k, s1, ho, hE, hr⟩, hB⟩ := hB
    exact kx E ce q9 u H1 locs1 k s1 (ct_bk C0.2.2.2.2.2.2.1 hw ht hB hS) ho hE hr h1 h2 h3
  · obtain ⟨s1, ho, hr⟩ := hp
    exact kk u H1 locs1 s1 (ct_bk C0.2.2.2.2.2.2.1 hw ht hB hS) ho hr
variable {b q0 ci N : Nat} {C : String} {T : u_T} {fs : List Value}
theorem ct_callVXv {o : (Nat × CS) ⊕ CS} (C0 : ct_Cx own cc nL p s m args meth c g A) (hw : ct_Wd g A s ws H locs) (hls : ls.size = nL) (he : ws[q0]? = some (b, .inr (ci, fs))) (hcl : kl[ci]? = some (C, T, N)) (hG : GoodIn Wds (wsV own index C y (ct_ws y cY nY ret))) (hM : ∀ sz, ct_XV l y cY nY ret rm g ws sz (.ref b :: As) o mcY msY)
    (hd : y.cls = C ∧ y.cls ≠ "java/lang/invoke/MethodHandle" ∧ y.cls ≠ "java/lang/invoke/VarHandle" ∧ (parseMethodDescriptor y.desc).map (fun d => d.parameters.length) = some nA) (hnA : As.length = nA) (hrm : rm.cells = mcY ∧ rm.slots = msY) (hR : rm.frames + 1 ≤ R.frames ∧ 8 + (nY + 11) + rm.locals ≤ R.locals) (hc : cells + mcY ≤ R.cells ∧ slots + msY ≤ R.slots) (hst : st0 = As.reverse ++ .ref b :: rest) (hrest : (rest.map fun v => v.category).sum ≤ 8) (hdg : decode cc pc = .ok (.invokevirtual index, 3))
    (kx : ∀ (E : String) (ce : Cell) (q9 : Addr) (ws1 : va_W) (H : Heap) (locs : List Loc) (k : Nat) (s1 : CS), ct_Wd g A s ws1 H locs → o = .inl (k, s1) → E = ct_exn k → cs_Rel g ws ws1 s1 → H[q9]? = some ce → ce.vm = .none → s.vm.findClass E = some ce.cls → vx_W p l e R s m args below meth c H locs (cells + mcY) (slots + msY) Q (F0 m pc ls rest) q9)
    (kk : ∀ (ws1 : va_W) (H : Heap) (locs : List Loc) (s1 : CS), ct_Wd g A s ws1 H locs → o = .inr s1 → cs_Rel g ws ws1 s1 → W p l e R s m args below meth c H locs (cells + mcY) (slots + msY) Q (F0 m (pc + 3) ls rest)) : W p l e R s m args below meth c H locs cells slots Q (F0 m pc ls st0) := by
  refine vx_callv (vx_runV (As := As) (rest := rest) ⟨C0.1, C0.2.1, C0.2.2.1, C0.2.2.2.1, C0.2.2.2.2.1⟩ (hM H.size) (cwV nA C0.2.2.2.2.1 hG rfl hrm.1 hrm.2 hd hR) ⟨ct_blind, va_recv C0.2.2.2.2.2.1.1 hw.1 hcl he, ct_pr C0 hw⟩ rfl hnA hls hst (lv_room hrest) hdg hc) hw.2.2 (fun q _ h => ct_fr C0.2.2.2.2.2.2.1 hw q h) (ct_fr C0.2.2.2.2.2.2.1 hw) (fun q _ h => ct_fr C0.2.2.2.2.2.2.1 hw q h) (fun E ce q9 u t H1 locs1 ht _ _ hB _ _ hS h1 h2 h3 => ?_) (fun u t H1 locs1 ht _ hp hB _ _ hS => ?_)
  · obtain ⟨⟨k, s1, ho, hE, hr⟩, hB⟩ := hB
    exact kx E ce q9 u H1 locs1 k s1 (ct_bk C0.2.2.2.2.2.2.1 hw ht hB hS) ho hE hr h1 h2 h3
  · obtain ⟨s1, ho, hr⟩ := hp
    exact kk u H1 locs1 s1 (ct_bk C0.2.2.2.2.2.2.1 hw ht hB hS) ho hr
theorem ct_callVXi {o : (Nat × CS) ⊕ (Int32 × CS)} (C0 : ct_Cx own cc nL p s m args meth c g A) (hw : ct_Wd g A s ws H locs) (hls : ls.size = nL) (he : ws[q0]? = some (b, .inr (ci, fs))) (hcl : kl[ci]? = some (C, T, N)) (hG : GoodIn Wds (wsV own index C y (ct_ws y cY nY ret))) (hM : ∀ sz, ct_XI l y cY nY ret rm g ws sz (.ref b :: As) o mcY msY)
    (hd : y.cls = C ∧ y.cls ≠ "java/lang/invoke/MethodHandle" ∧ y.cls ≠ "java/lang/invoke/VarHandle" ∧ (parseMethodDescriptor y.desc).map (fun d => d.parameters.length) = some nA) (hnA : As.length = nA) (hrm : rm.cells = mcY ∧ rm.slots = msY) (hR : rm.frames + 1 ≤ R.frames ∧ 8 + (nY + 11) + rm.locals ≤ R.locals) (hc : cells + mcY ≤ R.cells ∧ slots + msY ≤ R.slots) (hst : st0 = As.reverse ++ .ref b :: rest) (hrest : (rest.map fun v => v.category).sum ≤ 8) (hdg : decode cc pc = .ok (.invokevirtual index, 3))
    (kx : ∀ (E : String) (ce : Cell) (q9 : Addr) (ws1 : va_W) (H : Heap) (locs : List Loc) (k : Nat) (s1 : CS), ct_Wd g A s ws1 H locs → o = .inl (k, s1) → E = ct_exn k → cs_Rel g ws ws1 s1 → H[q9]? = some ce → ce.vm = .none → s.vm.findClass E = some ce.cls → vx_W p l e R s m args below meth c H locs (cells + mcY) (slots + msY) Q (F0 m pc ls rest) q9)
    (kk : ∀ (r : Int32) (ws1 : va_W) (H : Heap) (locs : List Loc) (s1 : CS), ct_Wd g A s ws1 H locs → o = .inr (r, s1) → cs_Rel g ws ws1 s1 → W p l e R s m args below meth c H locs (cells + mcY) (slots + msY) Q (F0 m (pc + 3) ls (.int r :: rest))) : W p l e R s m args below meth c H locs cells slots Q (F0 m pc ls st0) := by
  refine vx_calli (vx_runV (As := As) (rest := rest) ⟨C0.1, C0.2.1, C0.2.2.1, C0.2.2.2.1, C0.2.2.2.2.1⟩ (hM H.size) (cwV nA C0.2.2.2.2.1 hG rfl hrm.1 hrm.2 hd hR) ⟨ct_blind, va_recv C0.2.2.2.2.2.1.1 hw.1 hcl he, ct_pr C0 hw⟩ rfl hnA hls hst (lv_room hrest) hdg hc) hw.2.2 (fun q _ h => ct_fr C0.2.2.2.2.2.2.1 hw q h) (ct_fr C0.2.2.2.2.2.2.1 hw) (fun q _ h => ct_fr C0.2.2.2.2.2.2.1 hw q h) (fun E ce q9 u t H1 locs1 ht _ _ hB _ _ hS h1 h2 h3 => ?_) (fun r u t H1 locs1 ht _ hp hB _ _ hS => ?_)
  · obtain ⟨⟨k, s1, ho, hE, hr⟩, hB⟩ := hB
    exact kx E ce q9 u H1 locs1 k s1 (ct_bk C0.2.2.2.2.2.2.1 hw ht hB hS) ho hE hr h1 h2 h3
  · obtain ⟨s1, ho, hr⟩ := hp
    exact kk r u H1 locs1 s1 (ct_bk C0.2.2.2.2.2.2.1 hw ht hB hS) ho hr
theorem ct_callVXl {o : (Nat × CS) ⊕ (Int64 × CS)} (C0 : ct_Cx own cc nL p s m args meth c g A) (hw : ct_Wd g A s ws H locs) (hls : ls.size = nL) (he : ws[q0]? = some (b, .inr (ci, fs))) (hcl : kl[ci]? = some (C, T, N)) (hG : GoodIn Wds (wsV own index C y (ct_ws y cY nY ret))) (hM : ∀ sz, ct_XL l y cY nY ret rm g ws sz (.ref b :: As) o mcY msY)
    (hd : y.cls = C ∧ y.cls ≠ "java/lang/invoke/MethodHandle" ∧ y.cls ≠ "java/lang/invoke/VarHandle" ∧ (parseMethodDescriptor y.desc).map (fun d => d.parameters.length) = some nA) (hnA : As.length = nA) (hrm : rm.cells = mcY ∧ rm.slots = msY) (hR : rm.frames + 1 ≤ R.frames ∧ 8 + (nY + 11) + rm.locals ≤ R.locals) (hc : cells + mcY ≤ R.cells ∧ slots + msY ≤ R.slots) (hst : st0 = As.reverse ++ .ref b :: rest) (hrest : (rest.map fun v => v.category).sum ≤ 8) (hdg : decode cc pc = .ok (.invokevirtual index, 3))
    (kx : ∀ (E : String) (ce : Cell) (q9 : Addr) (ws1 : va_W) (H : Heap) (locs : List Loc) (k : Nat) (s1 : CS), ct_Wd g A s ws1 H locs → o = .inl (k, s1) → E = ct_exn k → cs_Rel g ws ws1 s1 → H[q9]? = some ce → ce.vm = .none → s.vm.findClass E = some ce.cls → vx_W p l e R s m args below meth c H locs (cells + mcY) (slots + msY) Q (F0 m pc ls rest) q9)
    (kk : ∀ (r : Int64) (ws1 : va_W) (H : Heap) (locs : List Loc) (s1 : CS), ct_Wd g A s ws1 H locs → o = .inr (r, s1) → cs_Rel g ws ws1 s1 → W p l e R s m args below meth c H locs (cells + mcY) (slots + msY) Q (F0 m (pc + 3) ls (.long r :: rest))) : W p l e R s m args below meth c H locs cells slots Q (F0 m pc ls st0) := by
  refine vx_calll (vx_runV (As := As) (rest := rest) ⟨C0.1, C0.2.1, C0.2.2.1, C0.2.2.2.1, C0.2.2.2.2.1⟩ (hM H.size) (cwV nA C0.2.2.2.2.1 hG rfl hrm.1 hrm.2 hd hR) ⟨ct_blind, va_recv C0.2.2.2.2.2.1.1 hw.1 hcl he, ct_pr C0 hw⟩ rfl hnA hls hst (lv_room hrest) hdg hc) hw.2.2 (fun q _ h => ct_fr C0.2.2.2.2.2.2.1 hw q h) (ct_fr C0.2.2.2.2.2.2.1 hw) (fun q _ h => ct_fr C0.2.2.2.2.2.2.1 hw q h) (fun E ce q9 u t H1 locs1 ht _ _ hB _ _ hS h1 h2 h3 => ?_) (fun r u t H1 locs1 ht _ hp hB _ _ hS => ?_)
  · obtain ⟨⟨k, s1, ho, hE, hr⟩, hB⟩ := hB
    exact kx E ce q9 u H1 locs1 k s1 (ct_bk C0.2.2.2.2.2.2.1 hw ht hB hS) ho hE hr h1 h2 h3
  · obtain ⟨s1, ho, hr⟩ := hp
    exact kk r u H1 locs1 s1 (ct_bk C0.2.2.2.2.2.2.1 hw ht hB hS) ho hr
end CTX
/-! reads and writes of the picture's parts -/
theorem cs_cellF {g : Gx} {st : CS} {f : Nat} (hf : f < 12) : cs_cell g st (23 + f) = .inr (0, [.long (cs_F st f).1, .long (cs_F st f).2.1, .int (cs_F st f).2.2]) := by
  match f, hf with
  | 0, _ => rfl | 1, _ => rfl | 2, _ => rfl | 3, _ => rfl | 4, _ => rfl | 5, _ => rfl | 6, _ => rfl | 7, _ => rfl | 8, _ => rfl | 9, _ => rfl | 10, _ => rfl | 11, _ => rfl
theorem cs_cellR {g : Gx} {st : CS} {r : Nat} (hr : r < 6) : cs_cell g st (15 + r) = .inl (g.2.2 0, 6, .inl (cs_R st r)) := by
  match r, hr with
  | 0, _ => rfl | 1, _ => rfl | 2, _ => rfl | 3, _ => rfl | 4, _ => rfl | 5, _ => rfl
theorem cs_cellP {g : Gx} {st : CS} {r : Nat} (hr : r < 2) : cs_cell g st (21 + r) = .inl (g.2.2 0, 72, .inl (cs_P st r)) := by
  match r, hr with
  | 0, _ => rfl | 1, _ => rfl
theorem cs_cellA {g : Gx} {st : CS} {k : Nat} (hk : k < 4) : cs_cell g st (8 + k) = .inl (g.2.2 0, 60, .inl (cs_A st k)) := by
  match k, hk with
  | 0, _ => rfl | 1, _ => rfl | 2, _ => rfl | 3, _ => rfl
theorem cs_cellZ {g : Gx} {st : CS} {k : Nat} (h4 : 4 ≤ k) (hk : k < 6) : cs_cell g st (8 + k) = .inl (g.2.2 1, 60, .inl (cs_A st k)) := by
  match k, h4, hk with
  | 4, _, _ => rfl | 5, _, _ => rfl
theorem cs_Rel.F {g : Gx} {w0 ws : va_W} {st : CS} {f : Nat} (hR : cs_Rel g w0 ws st) (hf : f < 12) : ws[23 + f]? = some (g.2.1 (23 + f), .inr (0, [.long (cs_F st f).1, .long (cs_F st f).2.1, .int (cs_F st f).2.2])) := by
  rw [← cs_cellF (g := g) hf]
  exact hR.1 _ (by omega)
/-! starts with the end given: Q is any end that a return reaches -/
section CTS
variable {l : Launch} {y : MethodName} {cc : ByteArray} {nL mc ms : Nat} {ret : Option FieldType} {rm : Room} {g : Gx} {ws0 : va_W} {sz : Nat} {As : List Value} {PU : va_W → Prop}
theorem ct_starti {v : Int32} (hy : plainName y.cls = true) (hA : (lg_sl As).length ≤ nL)
    (body : ∀ (p : Program) (e : Env) (sv : State) (m : MethodId) (args : Array Value) (below : List Frame) (meth : Method) (c : Code) (ls : Array Slot) (Q : State → Prop) (A : Nat → Prop) (H : Heap) (locs : List Loc), ct_Cx y.cls cc nL p sv m args meth c g A →
      (∀ {ws : va_W} {H : Heap} {locs : List Loc} {pc : Nat} {ls : Array Slot}, ct_Wd g A sv ws H locs → PU ws → decode cc pc = .ok (.ireturn, 1) → W p l e rm sv m args below meth c H locs 0 0 Q (F0 m pc ls [.int v])) → lv_has ls nL (lv_args 0 As) → ct_Wd g A sv ws0 H locs → W p l e rm sv m args below meth c H locs 0 0 Q (F0 m 0 ls [])) : ct_MI l y cc nL (some .int) rm g ws0 sz As v PU :=
  ct_start hy hA (fun p e s m below meth c ls C0 hr _ hl hw => body p e s m _ below meth c ls _ _ _ _ C0 (fun hw hp hd => ct_reti C0 hr hw hp hd) hl hw)
theorem ct_startz {v : Int32} (hy : plainName y.cls = true) (hA : (lg_sl As).length ≤ nL)
    (body : ∀ (p : Program) (e : Env) (sv : State) (m : MethodId) (args : Array Value) (below : List Frame) (meth : Method) (c : Code) (ls : Array Slot) (Q : State → Prop) (A : Nat → Prop) (H : Heap) (locs : List Loc), ct_Cx y.cls cc nL p sv m args meth c g A →
      (ct_isB v = true → ∀ {ws : va_W} {H : Heap} {locs : List Loc} {pc : Nat} {ls : Array Slot}, ct_Wd g A sv ws H locs → PU ws → decode cc pc = .ok (.ireturn, 1) → W p l e rm sv m args below meth c H locs 0 0 Q (F0 m pc ls [.int v])) → lv_has ls nL (lv_args 0 As) → ct_Wd g A sv ws0 H locs → W p l e rm sv m args below meth c H locs 0 0 Q (F0 m 0 ls [])) : ct_MI l y cc nL (some .boolean) rm g ws0 sz As v PU :=
  ct_start hy hA (fun p e s m below meth c ls C0 hr _ hl hw => body p e s m _ below meth c ls _ _ _ _ C0 (fun hz {_ _ _ _ _} hw hp hd => ct_retz C0 hr (ct_isB_nar hz) hw hp hd) hl hw)
theorem ct_startl {v : Int64} (hy : plainName y.cls = true) (hA : (lg_sl As).length ≤ nL)
    (body : ∀ (p : Program) (e : Env) (sv : State) (m : MethodId) (args : Array Value) (below : List Frame) (meth : Method) (c : Code) (ls : Array Slot) (Q : State → Prop) (A : Nat → Prop) (H : Heap) (locs : List Loc), ct_Cx y.cls cc nL p sv m args meth c g A →
      (∀ {ws : va_W} {H : Heap} {locs : List Loc} {pc : Nat} {ls : Array Slot}, ct_Wd g A sv ws H locs → PU ws → decode cc pc = .ok (.lreturn, 1) → W p l e rm sv m args below meth c H locs 0 0 Q (F0 m pc ls [.long v])) → lv_has ls nL (lv_args 0 As) → ct_Wd g A sv ws0 H locs → W p l e rm sv m args below meth c H locs 0 0 Q (F0 m 0 ls [])) : ct_ML l y cc nL (some .long) rm g ws0 sz As v PU :=
  ct_start hy hA (fun p e s m below meth c ls C0 hr _ hl hw => body p e s m _ below meth c ls _ _ _ _ C0 (fun hw hp hd => ct_retl C0 hr hw hp hd) hl hw)
theorem ct_startv (hy : plainName y.cls = true) (hA : (lg_sl As).length ≤ nL)
    (body : ∀ (p : Program) (e : Env) (sv : State) (m : MethodId) (args : Array Value) (below : List Frame) (meth : Method) (c : Code) (ls : Array Slot) (Q : State → Prop) (A : Nat → Prop) (H : Heap) (locs : List Loc), ct_Cx y.cls cc nL p sv m args meth c g A →
      (∀ {ws : va_W} {H : Heap} {locs : List Loc} {pc : Nat} {ls : Array Slot}, ct_Wd g A sv ws H locs → PU ws → decode cc pc = .ok (.return_, 1) → W p l e rm sv m args below meth c H locs 0 0 Q (F0 m pc ls [])) → lv_has ls nL (lv_args 0 As) → ct_Wd g A sv ws0 H locs → W p l e rm sv m args below meth c H locs 0 0 Q (F0 m 0 ls [])) : ct_MV l y cc nL none rm g ws0 sz As PU :=
  ct_start hy hA (fun p e s m below meth c ls C0 hr _ hl hw => body p e s m _ below meth c ls _ _ _ _ C0 (fun hw hp hd => ct_retv C0 hr hw hp hd) hl hw)
theorem ct_starta {a : Nat} {C : String} (hy : plainName y.cls = true) (hA : (lg_sl As).length ≤ nL)
    (body : ∀ (p : Program) (e : Env) (sv : State) (m : MethodId) (args : Array Value) (below : List Frame) (meth : Method) (c : Code) (ls : Array Slot) (Q : State → Prop) (A : Nat → Prop) (H : Heap) (locs : List Loc), ct_Cx y.cls cc nL p sv m args meth c g A →
      (∀ {ws : va_W} {H : Heap} {locs : List Loc} {pc : Nat} {ls : Array Slot}, ct_Wd g A sv ws H locs → PU ws → decode cc pc = .ok (.areturn, 1) → W p l e rm sv m args below meth c H locs 0 0 Q (F0 m pc ls [.ref a])) → lv_has ls nL (lv_args 0 As) → ct_Wd g A sv ws0 H locs → W p l e rm sv m args below meth c H locs 0 0 Q (F0 m 0 ls [])) : ct_MR l y cc nL (some (.object C)) rm g ws0 sz As a PU :=
  ct_start hy hA (fun p e s m below meth c ls C0 hr _ hl hw => body p e s m _ below meth c ls _ _ _ _ C0 (fun hw hp hd => ct_reta C0 hr hw hp hd) hl hw)
/-- how a method that may throw hands on what a callee threw, and throws by itself -/
abbrev ct_Out {α : Type} (p : Program) (l : Launch) (e : Env) (rm : Room) (sv : State) (m : MethodId) (args : Array Value) (below : List Frame) (meth : Method) (c : Code) (g : Gx) (ws0 : va_W) (A : Nat → Prop) (Q : State → Prop) (o : (Nat × CS) ⊕ α) (mc ms : Nat) : Prop :=
  ∀ {E : String} {ce : Cell} {q : Addr} {k : Nat} {s1 : CS} {ws : va_W} {H : Heap} {locs : List Loc} {cells slots pc : Nat} {ls : Array Slot} {rest : List Value}, ct_Wd g A sv ws H locs → o = .inl (k, s1) → E = ct_exn k → cs_Rel g ws0 ws s1 → H[q]? = some ce → ce.vm = .none → sv.vm.findClass E = some ce.cls → cells ≤ mc → slots ≤ ms → vx_W p l e rm sv m args below meth c H locs cells slots Q (F0 m pc ls rest) q
abbrev ct_Thr {α : Type} (p : Program) (l : Launch) (e : Env) (rm : Room) (sv : State) (m : MethodId) (args : Array Value) (below : List Frame) (meth : Method) (c : Code) (cc : ByteArray) (nL : Nat) (g : Gx) (ws0 : va_W) (A : Nat → Prop) (Q : State → Prop) (o : (Nat × CS) ⊕ α) (mc ms : Nat) : Prop :=
  ∀ {st : CS} {X : String} {k ik is ic : Nat} {text : String} {ws : va_W} {H : Heap} {locs : List Loc} {cells slots pc : Nat} {ls : Array Slot} {rest : List Value}, ls.size = nL → ct_Wd g A sv ws H locs → cs_Rel g ws0 ws st → o = .inl (k, st) → X = ct_exn k → Bundle.fit X = true → Cond.classLink R_CT ik X ∈ Wds → Cond.initialized X ∈ Wds → (is, text) ∈ ct_str →
    (∀ w ∈ (vx_atS R_CT ic X ["java/lang/RuntimeException", "java/lang/Exception"]).filter goodWord, w ∈ Wds) → (∀ w ∈ (vx_atS R_CT ic X ["java/lang/RuntimeException", "java/lang/Exception"]).filter (fun w => !goodWord w), w ∈ NW) → (∀ w ∈ Cond.classLink R_CT ik X :: Cond.initialized X :: vx_atS R_CT ic X ["java/lang/RuntimeException", "java/lang/Exception"], vx_ot w = true) →
    decode cc pc = .ok (.new ik, 3) → decode cc (pc + 3) = .ok (.dup, 1) → decode cc (pc + 4) = .ok (.ldc is, 2) → decode cc (pc + 6) = .ok (.invokespecial ic, 3) → decode cc (pc + 9) = .ok (.athrow, 1) → 5 < rm.frames → (rest.map fun v => v.category).sum + 82 ≤ rm.locals → cells + 1 ≤ rm.cells → slots + 6 ≤ rm.slots → cells + 1 ≤ mc → slots + 6 ≤ ms → W p l e rm sv m args below meth c H locs cells slots Q (F0 m pc ls rest)
theorem ct_startXi {o : (Nat × CS) ⊕ (Int32 × CS)} (hl0 : l.stackTraces = false) (hy : plainName y.cls = true) (hyc : y.cls = R_CT) (hA : (lg_sl As).length ≤ nL)
    (body : ∀ (p : Program) (e : Env) (sv : State) (m : MethodId) (args : Array Value) (below : List Frame) (meth : Method) (c : Code) (ls : Array Slot) (Q : State → Prop) (A : Nat → Prop) (H : Heap) (locs : List Loc), ct_Cx y.cls cc nL p sv m args meth c g A →
      (∀ {v : Int32} {ws : va_W} {H : Heap} {locs : List Loc} {cells slots pc : Nat} {ls : Array Slot}, ct_Wd g A sv ws H locs → (∃ s1, o = .inr (v, s1) ∧ cs_Rel g ws0 ws s1) → cells ≤ mc → slots ≤ ms → decode cc pc = .ok (.ireturn, 1) → W p l e rm sv m args below meth c H locs cells slots Q (F0 m pc ls [.int v])) →
      ct_Out p l e rm sv m args below meth c g ws0 A Q o mc ms → ct_Thr p l e rm sv m args below meth c cc nL g ws0 A Q o mc ms → lv_has ls nL (lv_args 0 As) → ct_Wd g A sv ws0 H locs → W p l e rm sv m args below meth c H locs 0 0 Q (F0 m 0 ls [])) : ct_XI l y cc nL (some .int) rm g ws0 sz As o mc ms :=
  ct_startX hy hA (fun p e s m below meth c ls C0 hr _ hex hl hw => body p e s m _ below meth c ls _ _ _ _ C0 (fun hw hp h1 h2 hd => ct_xreti C0 hr hw hp h1 h2 hd) (fun hw ho hE hR h1 h2 h3 h4 h5 => ct_xout C0 hex hw ho hE hR h1 h2 h3 h4 h5) (fun a1 a2 a3 a4 a5 a6 a7 a8 a9 b1 b2 b3 d0 d3 d4 d6 d9 c1 c2 c3 c4 c5 c6 => ct_throw hl0 (hyc ▸ C0) hex a1 a2 a3 a4 a5 a6 a7 a8 a9 b1 b2 b3 d0 d3 d4 d6 d9 c1 c2 c3 c4 c5 c6) hl hw)
theorem ct_startXl {o : (Nat × CS) ⊕ (Int64 × CS)} (hl0 : l.stackTraces = false) (hy : plainName y.cls = true) (hyc : y.cls = R_CT) (hA : (lg_sl As).length ≤ nL)
    (body : ∀ (p : Program) (e : Env) (sv : State) (m : MethodId) (args : Array Value) (below : List Frame) (meth : Method) (c : Code) (ls : Array Slot) (Q : State → Prop) (A : Nat → Prop) (H : Heap) (locs : List Loc), ct_Cx y.cls cc nL p sv m args meth c g A →
      (∀ {v : Int64} {ws : va_W} {H : Heap} {locs : List Loc} {cells slots pc : Nat} {ls : Array Slot}, ct_Wd g A sv ws H locs → (∃ s1, o = .inr (v, s1) ∧ cs_Rel g ws0 ws s1) → cells ≤ mc → slots ≤ ms → decode cc pc = .ok (.lreturn, 1) → W p l e rm sv m args below meth c H locs cells slots Q (F0 m pc ls [.long v])) →
      ct_Out p l e rm sv m args below meth c g ws0 A Q o mc ms → ct_Thr p l e rm sv m args below meth c cc nL g ws0 A Q o mc ms → lv_has ls nL (lv_args 0 As) → ct_Wd g A sv ws0 H locs → W p l e rm sv m args below meth c H locs 0 0 Q (F0 m 0 ls [])) : ct_XL l y cc nL (some .long) rm g ws0 sz As o mc ms :=
  ct_startX hy hA (fun p e s m below meth c ls C0 hr _ hex hl hw => body p e s m _ below meth c ls _ _ _ _ C0 (fun hw hp h1 h2 hd => ct_xretl C0 hr hw hp h1 h2 hd) (fun hw ho hE hR h1 h2 h3 h4 h5 => ct_xout C0 hex hw ho hE hR h1 h2 h3 h4 h5) (fun a1 a2 a3 a4 a5 a6 a7 a8 a9 b1 b2 b3 d0 d3 d4 d6 d9 c1 c2 c3 c4 c5 c6 => ct_throw hl0 (hyc ▸ C0) hex a1 a2 a3 a4 a5 a6 a7 a8 a9 b1 b2 b3 d0 d3 d4 d6 d9 c1 c2 c3 c4 c5 c6) hl hw)
theorem ct_startXv {o : (Nat × CS) ⊕ CS} (hl0 : l.stackTraces = false) (hy : plainName y.cls = true) (hyc : y.cls = R_CT) (hA : (lg_sl As).length ≤ nL)
    (body : ∀ (p : Program) (e : Env) (sv : State) (m : MethodId) (args : Array Value) (below : List Frame) (meth : Method) (c : Code) (ls : Array Slot) (Q : State → Prop) (A : Nat → Prop) (H : Heap) (locs : List Loc), ct_Cx y.cls cc nL p sv m args meth c g A →
      (∀ {ws : va_W} {H : Heap} {locs : List Loc} {cells slots pc : Nat} {ls : Array Slot}, ct_Wd g A sv ws H locs → (∃ s1, o = .inr s1 ∧ cs_Rel g ws0 ws s1) → cells ≤ mc → slots ≤ ms → decode cc pc = .ok (.return_, 1) → W p l e rm sv m args below meth c H locs cells slots Q (F0 m pc ls [])) →
      ct_Out p l e rm sv m args below meth c g ws0 A Q o mc ms → ct_Thr p l e rm sv m args below meth c cc nL g ws0 A Q o mc ms → lv_has ls nL (lv_args 0 As) → ct_Wd g A sv ws0 H locs → W p l e rm sv m args below meth c H locs 0 0 Q (F0 m 0 ls [])) : ct_XV l y cc nL none rm g ws0 sz As o mc ms :=
  ct_startX hy hA (fun p e s m below meth c ls C0 hr _ hex hl hw => body p e s m _ below meth c ls _ _ _ _ C0 (fun hw hp h1 h2 hd => ct_xretv C0 hr hw hp h1 h2 hd) (fun hw ho hE hR h1 h2 h3 h4 h5 => ct_xout C0 hex hw ho hE hR h1 h2 h3 h4 h5) (fun a1 a2 a3 a4 a5 a6 a7 a8 a9 b1 b2 b3 d0 d3 d4 d6 d9 c1 c2 c3 c4 c5 c6 => ct_throw hl0 (hyc ▸ C0) hex a1 a2 a3 a4 a5 a6 a7 a8 a9 b1 b2 b3 d0 d3 d4 d6 d9 c1 c2 c3 c4 c5 c6) hl hw)
end CTS
/-! what a cell of the class's picture hangs on -/
theorem cs_cell_ext {g : Gx} {s s' : CS} {j : Nat} (h1 : j = 1 → cs_I s' 0 = cs_I s 0) (h2 : j = 2 → ∀ k, 1 ≤ k → k ≤ 5 → cs_I s' k = cs_I s k) (h3 : j = 3 → cs_I s' 6 = cs_I s 6) (hA : 8 ≤ j → j < 15 → cs_A s' (j - 8) = cs_A s (j - 8)) (hR : 15 ≤ j → j < 21 → cs_R s' (j - 15) = cs_R s (j - 15)) (hP : 21 ≤ j → j < 23 → cs_P s' (j - 21) = cs_P s (j - 21)) (hF : 23 ≤ j → cs_F s' (j - 23) = cs_F s (j - 23)) : cs_cell g s' j = cs_cell g s j := by
  by_cases e0 : j = 0
  · subst e0; rfl
  by_cases e1 : j = 1
  · subst e1; simp [cs_cell, h1 rfl]
  by_cases e2 : j = 2
  · subst e2; simp [cs_cell, h2 rfl 1 (by decide) (by decide), h2 rfl 2 (by decide) (by decide), h2 rfl 3 (by decide) (by decide), h2 rfl 4 (by decide) (by decide), h2 rfl 5 (by decide) (by decide)]
  by_cases e3 : j = 3
  · subst e3; simp [cs_cell, h3 rfl]
  by_cases e4 : j = 4
  · subst e4; rfl
  by_cases e5 : j = 5
  · subst e5; rfl
  by_cases e6 : j = 6
  · subst e6; rfl
  by_cases e7 : j = 7
  · subst e7; rfl
  unfold cs_cell
  rw [if_neg e0, if_neg e1, if_neg e2, if_neg e3, if_neg e4, if_neg e5, if_neg e6, if_neg e7, if_neg e0, if_neg e1, if_neg e2, if_neg e3, if_neg e4, if_neg e5, if_neg e6, if_neg e7]
  by_cases a : j < 15
  · rw [hA (by omega) a]
    by_cases b : j < 12
    · rw [if_pos b, if_pos b]
    · by_cases b2 : j < 14
      · rw [if_neg b, if_pos b2, if_neg b, if_pos b2]
      · rw [if_neg b, if_neg b2, if_pos a, if_neg b, if_neg b2, if_pos a]
  · have n12 : ¬ j < 12 := by omega
    have n14 : ¬ j < 14 := by omega
    simp only [if_neg n12, if_neg n14, if_neg a]
    by_cases b : j < 21
    · rw [if_pos b, if_pos b, hR (by omega) b]
    · by_cases b2 : j < 23
      · rw [if_neg b, if_pos b2, if_neg b, if_pos b2, hP (by omega) b2]
      · rw [if_neg b, if_neg b2, if_neg b, if_neg b2, hF (by omega)]
theorem ms_cell_ext {g : Gx} {s s' : MS} {j : Nat} (hI : j = 35 → s'.1 = s.1 ∧ s'.2.1 = s.2.1) (hA : 36 ≤ j → j < 43 → ms_A s' (j - 36) = ms_A s (j - 36)) (hB : 43 ≤ j → j < 45 → ms_B s' (j - 43) = ms_B s (j - 43)) (h7 : j = 45 → ms_A s' 7 = ms_A s 7) (h8 : 46 ≤ j → ms_A s' 8 = ms_A s 8) (hlo : 35 ≤ j) : ms_cell g s' j = ms_cell g s j := by
  by_cases e0 : j = 35
  · subst e0
    obtain ⟨q1, q2⟩ := hI rfl
    simp [ms_cell, ms_I, ms_L, q1, q2]
  unfold ms_cell
  rw [if_neg e0, if_neg e0]
  by_cases a : j < 43
  · have q := hA (by omega) a
    by_cases b : j < 40
    · rw [if_pos b, if_pos b, q]
    · by_cases b2 : j < 42
      · rw [if_neg b, if_pos b2, if_neg b, if_pos b2, q]
      · have b3 : j = 42 := by omega
        rw [if_neg b, if_neg b2, if_pos b3, if_neg b, if_neg b2, if_pos b3]
        have q : ms_A s' 6 = ms_A s 6 := by rw [b3] at q; exact q
        rw [q]
  · have n40 : ¬ j < 40 := by omega
    have n42 : ¬ j < 42 := by omega
    have m42 : ¬ j = 42 := by omega
    simp only [if_neg n40, if_neg n42, if_neg m42]
    by_cases b : j < 45
    · rw [if_pos b, if_pos b, hB (by omega) b]
    · by_cases b2 : j = 45
      · rw [if_neg b, if_pos b2, if_neg b, if_pos b2, h7 b2]
      · rw [if_neg b, if_neg b2, if_neg b, if_neg b2, h8 (by omega)]
section CTP
variable {g : Gx} {w0 ws : va_W} {st : CS} {mt : MS}
theorem cs_Rel.putA {k i : Nat} {v : Int32} {e : va_E} (hR : cs_Rel g w0 ws st) (hk : k < 7) (he : cs_cell g (cs_A' st k i v) (8 + k) = e) : cs_Rel g w0 (ws.set (8 + k) (g.2.1 (8 + k), e)) (cs_A' st k i v) :=
  hR.put (by omega) he (fun j _ hne => cs_cell_ext (fun _ => rfl) (fun _ _ _ _ => rfl) (fun _ => rfl) (fun _ _ => va_up_ne _ _ (by omega)) (fun _ _ => rfl) (fun _ _ => rfl) (fun _ => rfl))
theorem cs_Rel.putR {k i : Nat} {v : Int32} (hR : cs_Rel g w0 ws st) (hk : k < 6) : cs_Rel g w0 (ws.set (15 + k) (g.2.1 (15 + k), .inl (g.2.2 0, 6, .inl (upd (cs_R st k) i v)))) (cs_R' st k i v) :=
  hR.put (by omega) ((cs_cellR hk).trans (by rw [show cs_R (cs_R' st k i v) k = upd (cs_R st k) i v from va_up_self _ _ _])) (fun j _ hne => cs_cell_ext (fun _ => rfl) (fun _ _ _ _ => rfl) (fun _ => rfl) (fun _ _ => rfl) (fun _ _ => va_up_ne _ _ (by omega)) (fun _ _ => rfl) (fun _ => rfl))
theorem cs_Rel.putP {k i : Nat} {v : Int32} (hR : cs_Rel g w0 ws st) (hk : k < 2) : cs_Rel g w0 (ws.set (21 + k) (g.2.1 (21 + k), .inl (g.2.2 0, 72, .inl (upd (cs_P st k) i v)))) (cs_P' st k i v) :=
  hR.put (by omega) ((cs_cellP hk).trans (by rw [show cs_P (cs_P' st k i v) k = upd (cs_P st k) i v from va_up_self _ _ _])) (fun j _ hne => cs_cell_ext (fun _ => rfl) (fun _ _ _ _ => rfl) (fun _ => rfl) (fun _ _ => rfl) (fun _ _ => rfl) (fun _ _ => va_up_ne _ _ (by omega)) (fun _ => rfl))
theorem cs_Rel.putF {f : Nat} {t : Int64 × Int64 × Int32} (hR : cs_Rel g w0 ws st) (hf : f < 12) : cs_Rel g w0 (ws.set (23 + f) (g.2.1 (23 + f), .inr (0, [.long t.1, .long t.2.1, .int t.2.2]))) (cs_F' st f t) :=
  hR.put (by omega) ((cs_cellF hf).trans (by rw [show cs_F (cs_F' st f t) f = t from va_up_self _ _ _])) (fun j _ hne => cs_cell_ext (fun _ => rfl) (fun _ _ _ _ => rfl) (fun _ => rfl) (fun _ _ => rfl) (fun _ _ => rfl) (fun _ _ => rfl) (fun _ => va_up_ne _ _ (by omega)))
theorem cs_Rel.putF0 {f : Nat} (hR : cs_Rel g w0 ws st) (hf : f < 12) (v : Int64) : cs_Rel g w0 (ws.set (23 + f) (g.2.1 (23 + f), .inr (0, [.long v, .long (cs_F st f).2.1, .int (cs_F st f).2.2]))) (cs_F0' st f v) := hR.putF (t := (v, (cs_F st f).2)) hf
theorem cs_Rel.putF1 {f : Nat} (hR : cs_Rel g w0 ws st) (hf : f < 12) (v : Int64) : cs_Rel g w0 (ws.set (23 + f) (g.2.1 (23 + f), .inr (0, [.long (cs_F st f).1, .long v, .int (cs_F st f).2.2]))) (cs_F1' st f v) := hR.putF (t := ((cs_F st f).1, v, (cs_F st f).2.2)) hf
theorem cs_Rel.putF2 {f : Nat} (hR : cs_Rel g w0 ws st) (hf : f < 12) (v : Int32) : cs_Rel g w0 (ws.set (23 + f) (g.2.1 (23 + f), .inr (0, [.long (cs_F st f).1, .long (cs_F st f).2.1, .int v]))) (cs_F2' st f v) := hR.putF (t := ((cs_F st f).1, (cs_F st f).2.1, v)) hf
end CTP
/-! arrays -/
section CTR
variable {p : Program} {l : Launch} {e : Env} {R : Room} {s : State} {m : MethodId} {args : Array Value} {below : List Frame} {meth : Method} {c : Code} {H : Heap} {locs : List Loc} {cells slots : Nat} {Q : State → Prop} {own : String} {cc : ByteArray} {nL : Nat} {g : Gx} {A : Nat → Prop} {w0 ws : va_W} {pc : Nat} {ls : Array Slot} {rest : List Value} {st : CS} {k r : Nat} {i x : Int32}
theorem cs_Rel.aA {w0 ws : va_W} {st : CS} (hR : cs_Rel g w0 ws st) (hk : k < 4) : ws[8 + k]? = some (g.2.1 (8 + k), .inl (g.2.2 0, 60, .inl (cs_A st k))) := by rw [← cs_cellA (g := g) hk]; exact hR.1 _ (by omega)
theorem cs_Rel.aZ {w0 ws : va_W} {st : CS} (hR : cs_Rel g w0 ws st) (h4 : 4 ≤ k) (hk : k < 6) : ws[8 + k]? = some (g.2.1 (8 + k), .inl (g.2.2 1, 60, .inl (cs_A st k))) := by rw [← cs_cellZ (g := g) h4 hk]; exact hR.1 _ (by omega)
theorem cs_Rel.aR {w0 ws : va_W} {st : CS} (hR : cs_Rel g w0 ws st) (hr : r < 6) : ws[15 + r]? = some (g.2.1 (15 + r), .inl (g.2.2 0, 6, .inl (cs_R st r))) := by rw [← cs_cellR (g := g) hr]; exact hR.1 _ (by omega)
theorem cs_Rel.aP {w0 ws : va_W} {st : CS} (hR : cs_Rel g w0 ws st) (hr : r < 2) : ws[21 + r]? = some (g.2.1 (21 + r), .inl (g.2.2 0, 72, .inl (cs_P st r))) := by rw [← cs_cellP (g := g) hr]; exact hR.1 _ (by omega)
theorem ct_ldA (C0 : ct_Cx own cc nL p s m args meth c g A) (hw : ct_Wd g A s ws H locs) (hR : cs_Rel g w0 ws st) (hk : k < 4) (hi : vp_in i 60) (hdg : decode cc pc = .ok (.iaload, 1)) (kk : W p l e R s m args below meth c H locs cells slots Q (F0 m (pc + 1) ls (.int (cs_A st k i.toNatClampNeg) :: rest))) : W p l e R s m args below meth c H locs cells slots Q (F0 m pc ls (.int i :: .ref (g.2.1 (8 + k)) :: rest)) :=
  va_iald C0.1 C0.2.1 C0.2.2.2.2.2.1.1 hw.1 (8 + k) 0 (hR.aA hk) rfl hi hdg kk
theorem ct_ldZ (C0 : ct_Cx own cc nL p s m args meth c g A) (hw : ct_Wd g A s ws H locs) (hR : cs_Rel g w0 ws st) (h4 : 4 ≤ k) (hk : k < 6) (hi : vp_in i 60) (hdg : decode cc pc = .ok (.baload, 1)) (kk : W p l e R s m args below meth c H locs cells slots Q (F0 m (pc + 1) ls (.int (cs_A st k i.toNatClampNeg) :: rest))) : W p l e R s m args below meth c H locs cells slots Q (F0 m pc ls (.int i :: .ref (g.2.1 (8 + k)) :: rest)) :=
  va_zald C0.1 C0.2.1 C0.2.2.2.2.2.1.1 hw.1 (8 + k) 1 (hR.aZ h4 hk) rfl hi hdg kk
theorem ct_ldO (C0 : ct_Cx own cc nL p s m args meth c g A) (hw : ct_Wd g A s ws H locs) (hR : cs_Rel g w0 ws st) (hi : vp_in i 36) (hdg : decode cc pc = .ok (.baload, 1)) (kk : W p l e R s m args below meth c H locs cells slots Q (F0 m (pc + 1) ls (.int (cs_A st 6 i.toNatClampNeg) :: rest))) : W p l e R s m args below meth c H locs cells slots Q (F0 m pc ls (.int i :: .ref (g.2.1 14) :: rest)) :=
  va_zald C0.1 C0.2.1 C0.2.2.2.2.2.1.1 hw.1 14 1 (hR.1 14 (by decide)) rfl hi hdg kk
theorem ct_lena (C0 : ct_Cx own cc nL p s m args meth c g A) (hw : ct_Wd g A s ws H locs) (hR : cs_Rel g w0 ws st) (hdg : decode cc pc = .ok (.arraylength, 1)) (kk : W p l e R s m args below meth c H locs cells slots Q (F0 m (pc + 1) ls (.int 36 :: rest))) : W p l e R s m args below meth c H locs cells slots Q (F0 m pc ls (.ref (g.2.1 14) :: rest)) :=
  va_alen (ty := .boolean) C0.1 C0.2.1 C0.2.2.2.2.2.1.1 hw.1 14 1 (hR.1 14 (by decide)) rfl rfl hdg kk
theorem ct_ldrw (C0 : ct_Cx own cc nL p s m args meth c g A) (hw : ct_Wd g A s ws H locs) (hR : cs_Rel g w0 ws st) (hr : r < 6) (hi : vp_in i 6) (hdg : decode cc pc = .ok (.iaload, 1)) (kk : W p l e R s m args below meth c H locs cells slots Q (F0 m (pc + 1) ls (.int (cs_R st r i.toNatClampNeg) :: rest))) : W p l e R s m args below meth c H locs cells slots Q (F0 m pc ls (.int i :: .ref (g.2.1 (15 + r)) :: rest)) :=
  va_iald C0.1 C0.2.1 C0.2.2.2.2.2.1.1 hw.1 (15 + r) 0 (hR.aR hr) rfl hi hdg kk
theorem ct_ldpm (C0 : ct_Cx own cc nL p s m args meth c g A) (hw : ct_Wd g A s ws H locs) (hR : cs_Rel g w0 ws st) (hr : r < 2) (hi : vp_in i 72) (hdg : decode cc pc = .ok (.iaload, 1)) (kk : W p l e R s m args below meth c H locs cells slots Q (F0 m (pc + 1) ls (.int (cs_P st r i.toNatClampNeg) :: rest))) : W p l e R s m args below meth c H locs cells slots Q (F0 m pc ls (.int i :: .ref (g.2.1 (21 + r)) :: rest)) :=
  va_iald C0.1 C0.2.1 C0.2.2.2.2.2.1.1 hw.1 (21 + r) 0 (hR.aP hr) rfl hi hdg kk
theorem ct_stA (C0 : ct_Cx own cc nL p s m args meth c g A) (hw : ct_Wd g A s ws H locs) (hR : cs_Rel g w0 ws st) (hk : k < 4) (hi : vp_in i 60) (hdg : decode cc pc = .ok (.iastore, 1)) (kk : ∀ (ws : va_W) (H : Heap) (locs : List Loc), ct_Wd g A s ws H locs → cs_Rel g w0 ws (cs_A' st k i.toNatClampNeg x) → W p l e R s m args below meth c H locs cells slots Q (F0 m (pc + 1) ls rest)) : W p l e R s m args below meth c H locs cells slots Q (F0 m pc ls (.int x :: .int i :: .ref (g.2.1 (8 + k)) :: rest)) :=
  va_iast C0.1 C0.2.1 C0.2.2.2.2.2.1.1 hw.1 hw.2.1 hw.2.2 (8 + k) 0 (hR.aA hk) rfl hi hdg (fun H locs hP hD hS => kk _ H locs ⟨hP, hD, hS⟩ (hR.putA (by omega) ((cs_cellA hk).trans (by rw [show cs_A (cs_A' st k i.toNatClampNeg x) k = upd (cs_A st k) i.toNatClampNeg x from va_up_self _ _ _]))))
theorem ct_stZ (C0 : ct_Cx own cc nL p s m args meth c g A) (hw : ct_Wd g A s ws H locs) (hR : cs_Rel g w0 ws st) (h4 : 4 ≤ k) (hk : k < 6) (hi : vp_in i 60) (hdg : decode cc pc = .ok (.bastore, 1)) (kk : ∀ (ws : va_W) (H : Heap) (locs : List Loc), ct_Wd g A s ws H locs → cs_Rel g w0 ws (cs_A' st k i.toNatClampNeg (vp_nar .boolean x)) → W p l e R s m args below meth c H locs cells slots Q (F0 m (pc + 1) ls rest)) : W p l e R s m args below meth c H locs cells slots Q (F0 m pc ls (.int x :: .int i :: .ref (g.2.1 (8 + k)) :: rest)) :=
  va_zast C0.1 C0.2.1 C0.2.2.2.2.2.1.1 hw.1 hw.2.1 hw.2.2 (8 + k) 1 (hR.aZ h4 hk) rfl hi hdg (fun H locs hP hD hS => kk _ H locs ⟨hP, hD, hS⟩ (hR.putA (by omega) ((cs_cellZ h4 hk).trans (by rw [show cs_A (cs_A' st k i.toNatClampNeg (vp_nar .boolean x)) k = upd (cs_A st k) i.toNatClampNeg (vp_nar .boolean x) from va_up_self _ _ _]))))
theorem ct_stO (C0 : ct_Cx own cc nL p s m args meth c g A) (hw : ct_Wd g A s ws H locs) (hR : cs_Rel g w0 ws st) (hi : vp_in i 36) (hdg : decode cc pc = .ok (.bastore, 1)) (kk : ∀ (ws : va_W) (H : Heap) (locs : List Loc), ct_Wd g A s ws H locs → cs_Rel g w0 ws (cs_A' st 6 i.toNatClampNeg (vp_nar .boolean x)) → W p l e R s m args below meth c H locs cells slots Q (F0 m (pc + 1) ls rest)) : W p l e R s m args below meth c H locs cells slots Q (F0 m pc ls (.int x :: .int i :: .ref (g.2.1 14) :: rest)) :=
  va_zast C0.1 C0.2.1 C0.2.2.2.2.2.1.1 hw.1 hw.2.1 hw.2.2 14 1 (hR.1 14 (by decide)) rfl hi hdg (fun H locs hP hD hS => kk _ H locs ⟨hP, hD, hS⟩ (hR.putA (k := 6) (by decide) rfl))
theorem ct_strw (C0 : ct_Cx own cc nL p s m args meth c g A) (hw : ct_Wd g A s ws H locs) (hR : cs_Rel g w0 ws st) (hr : r < 6) (hi : vp_in i 6) (hdg : decode cc pc = .ok (.iastore, 1)) (kk : ∀ (ws : va_W) (H : Heap) (locs : List Loc), ct_Wd g A s ws H locs → cs_Rel g w0 ws (cs_R' st r i.toNatClampNeg x) → W p l e R s m args below meth c H locs cells slots Q (F0 m (pc + 1) ls rest)) : W p l e R s m args below meth c H locs cells slots Q (F0 m pc ls (.int x :: .int i :: .ref (g.2.1 (15 + r)) :: rest)) :=
  va_iast C0.1 C0.2.1 C0.2.2.2.2.2.1.1 hw.1 hw.2.1 hw.2.2 (15 + r) 0 (hR.aR hr) rfl hi hdg (fun H locs hP hD hS => kk _ H locs ⟨hP, hD, hS⟩ (hR.putR hr))
theorem ct_stpm (C0 : ct_Cx own cc nL p s m args meth c g A) (hw : ct_Wd g A s ws H locs) (hR : cs_Rel g w0 ws st) (hr : r < 2) (hi : vp_in i 72) (hdg : decode cc pc = .ok (.iastore, 1)) (kk : ∀ (ws : va_W) (H : Heap) (locs : List Loc), ct_Wd g A s ws H locs → cs_Rel g w0 ws (cs_P' st r i.toNatClampNeg x) → W p l e R s m args below meth c H locs cells slots Q (F0 m (pc + 1) ls rest)) : W p l e R s m args below meth c H locs cells slots Q (F0 m pc ls (.int x :: .int i :: .ref (g.2.1 (21 + r)) :: rest)) :=
  va_iast C0.1 C0.2.1 C0.2.2.2.2.2.1.1 hw.1 hw.2.1 hw.2.2 (21 + r) 0 (hR.aP hr) rfl hi hdg (fun H locs hP hD hS => kk _ H locs ⟨hP, hD, hS⟩ (hR.putP hr))
/-- an array of arrays is read: the row's address -/
theorem ct_ldAA {cA : ClassId} {ty : FieldType} {n q0 t0 a : Nat} {f : Nat → Option Nat} (C0 : ct_Cx own cc nL p s m args meth c g A) (hw : ct_Wd g A s ws H locs) (ha : ws[q0]? = some (a, .inl (cA, n, .inr (.inr (.inr (.inr f)))))) (ht : (ct_ty g)[t0]? = some (cA, ty)) (hty : ty.isReference = true) (hi : vp_in i n) {b : Nat} (hb : f i.toNatClampNeg = some b) (hdg : decode cc pc = .ok (.aaload, 1)) (kk : W p l e R s m args below meth c H locs cells slots Q (F0 m (pc + 1) ls (.ref b :: rest))) : W p l e R s m args below meth c H locs cells slots Q (F0 m pc ls (.int i :: .ref a :: rest)) := by
  have hlt : i.toNatClampNeg < n := Nat.not_le.mp fun q => hi (Or.inr q)
  refine W.aald (v := va_rf (f i.toNatClampNeg)) (ty := ty) C0.1 C0.2.1 (hw.1 q0 _ ha) ((C0.2.2.2.2.2.1.1.2 t0 _ ht).1 n (fun j => va_rf (f j))) hty (fun q => by cases q) (by show ¬ (i < 0 ∨ (arrV _ _ _).slots.size ≤ _); rw [arrV_size]; exact hi) (by show (arrV _ _ _).slots[_]? = _; rw [arrV_read _ _ hlt]) rfl rfl hdg ?_
  rw [hb]
  exact kk
theorem ct_ldoc (C0 : ct_Cx own cc nL p s m args meth c g A) (hw : ct_Wd g A s ws H locs) (hR : cs_Rel g w0 ws st) (hi : vp_in i 6) (hdg : decode cc pc = .ok (.aaload, 1)) (kk : W p l e R s m args below meth c H locs cells slots Q (F0 m (pc + 1) ls (.ref (g.2.1 (15 + i.toNatClampNeg)) :: rest))) : W p l e R s m args below meth c H locs cells slots Q (F0 m pc ls (.int i :: .ref (g.2.1 5) :: rest)) :=
  ct_ldAA (t0 := 3) (ty := .array .int) C0 hw (hR.1 5 (by decide)) rfl rfl hi (if_pos (Nat.not_le.mp fun q => hi (Or.inr q))) hdg kk
theorem ct_ldop (C0 : ct_Cx own cc nL p s m args meth c g A) (hw : ct_Wd g A s ws H locs) (hR : cs_Rel g w0 ws st) (hi : vp_in i 2) (hdg : decode cc pc = .ok (.aaload, 1)) (kk : W p l e R s m args below meth c H locs cells slots Q (F0 m (pc + 1) ls (.ref (g.2.1 (21 + i.toNatClampNeg)) :: rest))) : W p l e R s m args below meth c H locs cells slots Q (F0 m pc ls (.int i :: .ref (g.2.1 6) :: rest)) :=
  ct_ldAA (t0 := 3) (ty := .array .int) C0 hw (hR.1 6 (by decide)) rfl rfl hi (if_pos (Nat.not_le.mp fun q => hi (Or.inr q))) hdg kk
theorem ct_ldlk (C0 : ct_Cx own cc nL p s m args meth c g A) (hw : ct_Wd g A s ws H locs) (hR : cs_Rel g w0 ws st) (hi : vp_in i 5) (hdg : decode cc pc = .ok (.aaload, 1)) (kk : W p l e R s m args below meth c H locs cells slots Q (F0 m (pc + 1) ls (.ref (g.2.1 (23 + (3 + i.toNatClampNeg))) :: rest))) : W p l e R s m args below meth c H locs cells slots Q (F0 m pc ls (.int i :: .ref (g.2.1 7) :: rest)) :=
  ct_ldAA (t0 := 4) (ty := .object R_Fr) C0 hw (hR.1 7 (by decide)) rfl rfl hi ((if_pos (Nat.not_le.mp fun q => hi (Or.inr q))).trans (by rw [show 23 + (3 + i.toNatClampNeg) = 26 + i.toNatClampNeg by omega])) hdg kk
end CTR
