/-! the law's wrappers: a call of the class, what it throws told as a number; the answer goes into the law's long[1] (place 47) -/
def lw_W (g : Gx) (w0 u : va_W) (s : CS) (out : Nat → Int64) : Prop := (∀ k, k < 35 → u[k]? = some (g.2.1 k, cs_cell g s k)) ∧ (∀ k, 35 ≤ k → k ≠ 47 → u[k]? = w0[k]?) ∧ u[47]? = some (g.2.1 47, .inl (g.2.2 2, 1, .inr (.inl out)))
def wr_code {α : Type} (o : (Nat × CS) ⊕ α) : Int32 := match o with
  | .inl q => if q.1 = 1 then 1 else if q.1 = 4 then 3 else 2
  | .inr _ => 0
def wr_st {α : Type} (o : (Nat × CS) ⊕ (α × CS)) : CS := match o with
  | .inl q => q.2
  | .inr q => q.2
def wr_stv (o : (Nat × CS) ⊕ CS) : CS := match o with
  | .inl q => q.2
  | .inr q => q
def wr_outI (o : (Nat × CS) ⊕ (Int32 × CS)) (out : Nat → Int64) : Nat → Int64 := match o with
  | .inl _ => out
  | .inr q => vp_updL out 0 q.1.toInt64
def wr_outL (o : (Nat × CS) ⊕ (Int64 × CS)) (out : Nat → Int64) : Nat → Int64 := match o with
  | .inl _ => out
  | .inr q => vp_updL out 0 q.1
theorem lw_W_keep {g : Gx} {w0 ws : va_W} {s : CS} {out : Nat → Int64} (h47 : w0[47]? = some (g.2.1 47, .inl (g.2.2 2, 1, .inr (.inl out)))) (h : cs_Rel g w0 ws s) : lw_W g w0 ws s out := ⟨h.1, fun k hk _ => h.2 k hk, (h.2 47 (by decide)).trans h47⟩
theorem lw_W_put {g : Gx} {w0 ws : va_W} {s : CS} {out out' : Nat → Int64} (h47 : w0[47]? = some (g.2.1 47, .inl (g.2.2 2, 1, .inr (.inl out)))) (h : cs_Rel g w0 ws s) : lw_W g w0 (ws.set 47 (g.2.1 47, .inl (g.2.2 2, 1, .inr (.inl out')))) s out' := by
  have hl : 47 < ws.length := (List.getElem?_eq_some_iff.mp ((h.2 47 (by decide)).trans h47)).1
  refine ⟨fun k hk => ?_, fun k hk hn => ?_, List.getElem?_set_self hl⟩
  · rw [List.getElem?_set_ne (by omega)]
    exact h.1 k hk
  · rw [List.getElem?_set_ne (by omega)]
    exact h.2 k hk
abbrev ct_wsW (y : MethodName) (c : ByteArray) (n : Nat) (hh : List (Nat × Nat × Nat × Nat)) : List Cond := Cond.codeWith y c n (some .int) hh :: Wds
abbrev ct_MW (l : Launch) (y : MethodName) (c : ByteArray) (n : Nat) (hh : List (Nat × Nat × Nat × Nat)) (rm : Room) (g : Gx) (ws : va_W) (sz : Nat) (As : List Value) (v : Int32) (PU : va_W → Prop) (mc ms : Nat) : Prop := Met l y (ct_wsW y c n hh) rm (va_Pc As (ct_Pre g ws sz)) (va_Qi (fun r u => r = v ∧ PU u) (ct_Pst g (va_A ws sz)) (va_A ws sz)) mc ms (va_A ws sz)
theorem ct_startW {l : Launch} {y : MethodName} {cc : ByteArray} {nL mc ms : Nat} {hh : List (Nat × Nat × Nat × Nat)} {rm : Room} {g : Gx} {ws0 : va_W} {sz : Nat} {As : List Value} {PU : va_W → Prop} {v : Int32} (hy : plainName y.cls = true) (hA : (lg_sl As).length ≤ nL)
    (body : ∀ (p : Program) (e : Env) (sv : State) (m : MethodId) (args : Array Value) (below : List Frame) (meth : Method) (c : Code) (ls : Array Slot) (Q : State → Prop) (A : Nat → Prop) (H : Heap) (locs : List Loc), ct_Cx y.cls cc nL p sv m args meth c g A → c.exceptionTable.toList = tableOf hh →
      (∀ {ws : va_W} {H : Heap} {locs : List Loc} {cells slots pc : Nat} {ls : Array Slot} {r : Int32}, ct_Wd g A sv ws H locs → PU ws → r = v → cells ≤ mc → slots ≤ ms → decode cc pc = .ok (.ireturn, 1) → W p l e rm sv m args below meth c H locs cells slots Q (F0 m pc ls [.int r])) → lv_has ls nL (lv_args 0 As) → ct_Wd g A sv ws0 H locs → W p l e rm sv m args below meth c H locs 0 0 Q (F0 m 0 ls [])) : ct_MW l y cc nL hh rm g ws0 sz As v PU mc ms := by
  refine va_MetW (cc := cc) (maxL := nL) (ret := some .int) (hh := hh) hy rfl ?_
  intro p e s m args below meth c s₁ B hml hv
  obtain ⟨rfl, hsz, hP, hD0, hE⟩ := hv
  have hts := atoms_spec (ws := ct_wsW y cc nL hh) B.pre
  have htab := vx_table (x := y) B (hts _ List.mem_cons_self)
  rw [lg_entry_eq]
  have C0 : ct_Cx y.cls cc nL p s m As.toArray meth c g (va_A ws0 sz) := ⟨B.exec, B.bytes, hml, findClass_of_methodNamed B.named, fun w hw => hts w (List.mem_cons_of_mem _ hw), hE, fun q hq => Or.inr (by omega), B.notSynchronized⟩
  refine body p e s m _ below meth c _ _ _ _ _ C0 htab (fun {ws H locs cells slots pc ls r} hw hp hr h1 h2 hdg => ?_) (lv_entry As hA) ⟨hP, hD0.self, va_S.rf⟩
  subst hr
  exact W.widen h1 h2 (W.iret (v := r) C0.1 C0.2.1 B.returns (fun t ht _ => ⟨⟨r, ws, rfl, ⟨rfl, hp⟩, by rw [ht]; exact hw.1, hw.2.1⟩, hw.2.2.F ht⟩) hw.2.2.2.2 hdg C0.2.2.2.2.2.2.2)
/-! the handlers: the first row names IllegalArgumentException; the second IllegalStateException or ArithmeticException; the third UnsupportedOperationException -/
section WRH
variable {p : Program} {l : Launch} {e : Env} {R : Room} {s : State} {m : MethodId} {args : Array Value} {below : List Frame} {meth : Method} {c : Code} {H : Heap} {locs : List Loc} {cells slots : Nat} {Q : State → Prop} {cc : ByteArray} {nL : Nat} {g : Gx} {A : Nat → Prop} {pc : Nat} {ls : Array Slot} {rest : List Value} {ce : Cell} {q : Addr} {a b h1 h2 h3 i2 : Nat} {suf : List (Nat × Nat × Nat × Nat)} {E : String}
theorem wr_catch1 (C0 : ct_Cx R_La cc nL p s m args meth c g A) (htab : c.exceptionTable.toList = tableOf ((a, b, h1, 13) :: suf)) (hl : Cond.classLink R_La 13 "java/lang/IllegalArgumentException" ∈ Wds) (hc : Cond.castable "java/lang/IllegalArgumentException" "java/lang/IllegalArgumentException" ∈ NW) (hx : covers ⟨a, b, h1, 13⟩ pc = true) (hE : E = ct_exn 1) (k1 : H[q]? = some ce) (k2 : ce.vm = .none) (k3 : s.vm.findClass E = some ce.cls)
    (kk : W p l e R s m args below meth c H locs cells slots Q (F0 m h1 ls [.ref q])) : vx_W p l e R s m args below meth c H locs cells slots Q (F0 m pc ls rest) q := by
  subst hE
  exact vx_catch (name := "java/lang/IllegalArgumentException") (E := "java/lang/IllegalArgumentException") C0.2.2.2.1 [] ⟨a, b, h1, 13⟩ (tableOf suf) htab (fun z hz => by cases hz) hx (show (13 : Nat) ≠ 0 by decide) (C0.2.2.2.2.1 _ hl) (ct_NW_use _ hc (C0.2.2.2.2.2.1.2.1 _ hc)) k1 k2 k3 kk
theorem wr_catch2 {nm : String} (C0 : ct_Cx R_La cc nL p s m args meth c g A) (htab : c.exceptionTable.toList = tableOf ((a, b, h1, 13) :: (a, b, h2, i2) :: suf)) (hi : i2 ≠ 0) (hl1 : Cond.classLink R_La 13 "java/lang/IllegalArgumentException" ∈ Wds) (hn : va_Nc nm "java/lang/IllegalArgumentException" s) (hl : Cond.classLink R_La i2 nm ∈ Wds) (hc : Cond.castable nm nm ∈ NW) (hx : covers ⟨a, b, h2, i2⟩ pc = true) (hE : E = nm) (k1 : H[q]? = some ce) (k2 : ce.vm = .none) (k3 : s.vm.findClass E = some ce.cls)
    (kk : W p l e R s m args below meth c H locs cells slots Q (F0 m h2 ls [.ref q])) : vx_W p l e R s m args below meth c H locs cells slots Q (F0 m pc ls rest) q := by
  subst hE
  exact vx_catch (name := E) (E := E) C0.2.2.2.1 [⟨a, b, h1, 13⟩] ⟨a, b, h2, i2⟩ (tableOf suf) htab (fun z hz => by rw [List.mem_singleton.mp hz]; exact Or.inr ⟨show (13 : Nat) ≠ 0 by decide, _, C0.2.2.2.2.1 _ hl1, hn⟩) hx hi (C0.2.2.2.2.1 _ hl) (ct_NW_use _ hc (C0.2.2.2.2.2.1.2.1 _ hc)) k1 k2 k3 kk
theorem wr_catch3 (C0 : ct_Cx R_La cc nL p s m args meth c g A) (htab : c.exceptionTable.toList = tableOf ((a, b, h1, 13) :: (a, b, h2, 57) :: (a, b, h3, 59) :: suf)) (hl1 : Cond.classLink R_La 13 "java/lang/IllegalArgumentException" ∈ Wds) (hl2 : Cond.classLink R_La 57 "java/lang/ArithmeticException" ∈ Wds) (hl : Cond.classLink R_La 59 "java/lang/UnsupportedOperationException" ∈ Wds) (hc : Cond.castable "java/lang/UnsupportedOperationException" "java/lang/UnsupportedOperationException" ∈ NW) (hx : covers ⟨a, b, h3, 59⟩ pc = true) (hE : E = ct_exn 4) (k1 : H[q]? = some ce) (k2 : ce.vm = .none) (k3 : s.vm.findClass E = some ce.cls)
    (kk : W p l e R s m args below meth c H locs cells slots Q (F0 m h3 ls [.ref q])) : vx_W p l e R s m args below meth c H locs cells slots Q (F0 m pc ls rest) q := by
  subst hE
  exact vx_catch (name := "java/lang/UnsupportedOperationException") (E := "java/lang/UnsupportedOperationException") C0.2.2.2.1 [⟨a, b, h1, 13⟩, ⟨a, b, h2, 57⟩] ⟨a, b, h3, 59⟩ (tableOf suf) htab (fun z hz => by
    rcases List.mem_cons.mp hz with rfl | hz
    · exact Or.inr ⟨show (13 : Nat) ≠ 0 by decide, _, C0.2.2.2.2.1 _ hl1, C0.2.2.2.2.2.1.2.2.2.2.2.2.2.2.2.1⟩
    · rw [List.mem_singleton.mp hz]
      exact Or.inr ⟨show (57 : Nat) ≠ 0 by decide, _, C0.2.2.2.2.1 _ hl2, C0.2.2.2.2.2.1.2.2.2.2.2.2.2.2.2.2⟩) hx (show (59 : Nat) ≠ 0 by decide) (C0.2.2.2.2.1 _ hl) (ct_NW_use _ hc (C0.2.2.2.2.2.1.2.1 _ hc)) k1 k2 k3 kk
end WRH
