/-! multianewarray of two dimensions whose rows hold ints: a row of the walk. My own: an invariant over the rows made so far. -/
theorem mn_over {args : Array Value} {s : State} (h : (Cond.arrayOver (.array .int)).before args s = true) : mn_AO s := by
  have h : (Cond.arrayOver (.array .int)).holds args s none s [] = true := h
  simp only [Cond.holds, Cond.value, beq_iff_eq] at h
  cases hc : s.vm.findClass (FieldType.array .int).toString with
  | none => simp [hc] at h
  | some cI =>
    simp only [hc, Option.bind_some, Option.bind_eq_some_iff, Option.map_eq_some_iff] at h
    obtain ⟨cA, hi, kA, hk, hb⟩ := h
    obtain ⟨_, hp, -⟩ := Array.findIdx?_eq_some_iff_getElem.mp hi
    rw [(Array.getElem?_eq_some_iff.mp hk).2] at hp
    cases hkind : kA.kind with
    | array comp ty =>
      rw [hkind] at hb hp
      simp at hb hp
      exact ⟨cI, cA, kA, hc, hk, by rw [hkind, hp, hb.1], hb.2⟩
    | _ => rw [hkind] at hb; simp at hb
/-- behind i rows -/
def mn_J (T U : State) (cA cI : ClassId) (N K i : Nat) : Prop :=
  U.vm = T.vm ∧ U.heap.size = T.heap.size + 1 + i ∧ U.slotsUsed = T.slotsUsed + N + i * K ∧ U.heap[T.heap.size]? = some (arrV cA N (fun j => va_rf (if j < i then some (T.heap.size + 1 + j) else none))) ∧ (∀ j, j < i → U.heap[T.heap.size + 1 + j]? = some (arrV cI K (fun _ => .int 0))) ∧ ∀ q, q < T.heap.size → U.heap[q]? = T.heap[q]?
theorem mn_upd {cA : ClassId} {N b i : Nat} : (arrV cA N (fun j => va_rf (if j < i then some (b + 1 + j) else none))).setSlot i (.ref (b + 1 + i)) = arrV cA N (fun j => va_rf (if j < i + 1 then some (b + 1 + j) else none)) := by
  rw [arrV_store]
  congr 1
  funext j
  unfold updV
  by_cases h : j = i
  · subst h
    simp [va_rf]
  · have e : (j < i + 1) = (j < i) := by apply propext; omega
    simp [h, e]
section MNA
variable {p : Program} {l : Launch} {e : Env} {R : Room} {s : State} {m : MethodId} {args : Array Value} {below : List Frame} {meth : Method} {c : Code} {H : Heap} {locs : List Loc} {cells slots : Nat} {Q : State → Prop} {T U : State} {cA cI : ClassId} {N K i : Nat}
theorem mn_first (X : Stand p l e R s m args below meth c T locs cells slots) (cI : ClassId) (K : Nat) : Stand p l e R s m args below meth c (T.pushCell (arrV cA N (fun _ => .null))) locs (cells + 1 + 0) (slots + N + 0 * K) ∧ mn_J T (T.pushCell (arrV cA N (fun _ => .null))) cA cI N K 0 := by
  have X1 := X.pushed (arrV cA N (fun _ => .null))
  rw [arrV_size] at X1
  refine ⟨by simpa using X1, rfl, by simp, by simp [arrV_size], ?_, fun j hj => absurd hj (Nat.not_lt_zero _), fun q hq => State.heap_pushCell_of_lt _ _ hq⟩
  rw [State.heap_pushCell_size]
  simp [va_rf]
theorem mn_next (X : Stand p l e R s m args below meth c U locs (cells + 1 + i) (slots + N + i * K)) (hT : s.heap.size ≤ T.heap.size) (J : mn_J T U cA cI N K i) :
    Stand p l e R s m args below meth c ((U.pushCell (arrV cI K (fun _ => .int 0))).setCell T.heap.size (arrV cA N (fun j => va_rf (if j < i + 1 then some (T.heap.size + 1 + j) else none)))) locs (cells + 1 + (i + 1)) (slots + N + (i + 1) * K) ∧
    mn_J T ((U.pushCell (arrV cI K (fun _ => .int 0))).setCell T.heap.size (arrV cA N (fun j => va_rf (if j < i + 1 then some (T.heap.size + 1 + j) else none)))) cA cI N K (i + 1) := by
  obtain ⟨j1, j2, j3, j4, j5, j6⟩ := J
  have hlt : T.heap.size < U.heap.size := by omega
  have h4 : (U.pushCell (arrV cI K (fun _ => .int 0))).heap[T.heap.size]? = some (arrV cA N (fun j => va_rf (if j < i then some (T.heap.size + 1 + j) else none))) := by rw [State.heap_pushCell_of_lt (h := hlt)]; exact j4
  have X1 := X.pushed (arrV cI K (fun _ => .int 0))
  rw [arrV_size] at X1
  have X2 := X1.stored h4 i (.ref (T.heap.size + 1 + i))
  rw [mn_upd] at X2
  have X3 := X2.dropFresh (fun x hx => by rw [List.mem_singleton.mp hx]; exact hT)
  refine ⟨by rw [show cells + 1 + (i + 1) = cells + 1 + i + 1 by omega, show slots + N + (i + 1) * K = slots + N + i * K + K by rw [Nat.succ_mul]; omega]; exact X3, j1, ?_, ?_, ?_, fun j hj => ?_, fun q hq => ?_⟩
  · simp [State.setCell, j2]; omega
  · simp [j3, arrV_size, Nat.succ_mul]; omega
  · exact State.heap_setCell_self h4
  · rw [State.heap_setCell_other (show T.heap.size ≠ T.heap.size + 1 + j by omega)]
    by_cases hji : j < i
    · have h9 : T.heap.size + 1 + j < U.heap.size := by omega
      rw [State.heap_pushCell_of_lt (h := h9)]
      exact j5 j hji
    · rw [show T.heap.size + 1 + j = U.heap.size by omega]
      exact State.heap_pushCell_size _ _
  · have h8 : T.heap.size ≠ q := by omega
    have h9 : q < U.heap.size := by omega
    rw [State.heap_setCell_other h8, State.heap_pushCell_of_lt (h := h9)]
    exact j6 q hq
end MNA
/-- the states row by row -/
def mn_S (T : State) (cA cI : ClassId) (N K : Nat) : Nat → State
  | 0 => T.pushCell (arrV cA N (fun _ => .null))
  | i + 1 => ((mn_S T cA cI N K i).pushCell (arrV cI K (fun _ => .int 0))).setCell T.heap.size (arrV cA N (fun j => va_rf (if j < i + 1 then some (T.heap.size + 1 + j) else none)))
theorem mn_S_top (T : State) (f : JFrame) (cA cI : ClassId) (N K : Nat) : ∀ i, mn_S (T.setTop f) cA cI N K i = (mn_S T cA cI N K i).setTop f
  | 0 => rfl
  | i + 1 => by
    show ((mn_S (T.setTop f) cA cI N K i).pushCell _).setCell _ _ = _
    rw [mn_S_top T f cA cI N K i]
    rfl
section MNB
variable {p : Program} {l : Launch} {e : Env} {R : Room} {s : State} {m : MethodId} {args : Array Value} {below : List Frame} {meth : Method} {c : Code} {H : Heap} {locs : List Loc} {cells slots : Nat} {Q : State → Prop} {T : State} {cA cI : ClassId} {N K : Nat}
theorem mn_S_ok (X : Stand p l e R s m args below meth c T locs cells slots) (hT : s.heap.size ≤ T.heap.size) : ∀ i, Stand p l e R s m args below meth c (mn_S T cA cI N K i) locs (cells + 1 + i) (slots + N + i * K) ∧ mn_J T (mn_S T cA cI N K i) cA cI N K i
  | 0 => mn_first X cI K
  | i + 1 => mn_next (mn_S_ok X hT i).1 hT (mn_S_ok X hT i).2
theorem mn_wp {n k : Int32} {kI kA : Class} {cc0 : ClassId} {d : Bool} {acts : List Action} {E : Jvm.CtlPost} {f : JFrame} (X : Stand p l e R s m args below meth c T locs cells slots) (hT : s.heap.size ≤ T.heap.size)
    (hkA : T.vm.classes[cA]? = some kA) (hkindA : kA.kind = .array cI (.array .int)) (hkI : T.vm.classes[cI]? = some kI) (hkindI : kI.kind = .array cc0 .int) (hn : ¬ n < 0) (hk : ¬ k < 0) (hN : n.toNatClampNeg = N) (hK : k.toNatClampNeg = K)
    (hl1 : ¬ N > e.platform.arrayLengthLimit) (hh1 : ¬ N * componentBytes (.array .int) > e.platform.maxHeapBytes) (hl2 : ¬ K > e.platform.arrayLengthLimit) (hh2 : ¬ K * componentBytes .int > e.platform.maxHeapBytes)
    (hr1 : T.heap.size + (1 + N) ≤ e.platform.maxCells) (hr2 : T.slotsUsed + (N + N * K) ≤ e.platform.maxSlots) {Q' : Addr → Jvm.Pre}
    (hq : ∀ d' acts', Q' T.heap.size d' acts' ((mn_S T cA cI N K N).setTop f)) : Jvm.Sem.wp (Jvm.Op.multianewarray.make cA [n, k]) Q' E e d acts (T.setTop f) := by
  have hfind : ([k].find? (· < 0)) = none := by simp [hk]
  rw [Jvm.Op.multianewarray.make]
  simp only [Jvm.Sem.wp_bind', Jvm.W.ite, hn, if_false, Jvm.Sem.wp_pure', Jvm.W.theClass, State.vm_setTop, hkA, hkindA, Option.some.injEq, exists_eq_left']
  refine Jvm.W.newArray_of (k := kA) (comp := cI) (type := .array .int) (by simpa using hkA) hkindA (by rw [hN]; exact hl1) (by rw [hN]; exact hh1) (by simp; omega) (by simp [hN]; have := Nat.zero_le (N * K); omega) rfl (fun acts1 => ?_)
  simp only [hfind]
  rw [ite_self, Jvm.Sem.wp_bind', Std.Legacy.Range.forIn_eq_forIn_range']
  have hsz : ([:n.toNatClampNeg] : Std.Legacy.Range).size = n.toNatClampNeg := by simp [Std.Legacy.Range.size]
  rw [hsz]
  subst hN
  subst hK
  refine Jvm.wp_forIn_inv (fun rest u => ∃ i, i ≤ n.toNatClampNeg ∧ rest = List.range' i (n.toNatClampNeg - i) ∧ u = (mn_S T cA cI n.toNatClampNeg k.toNatClampNeg i).setTop f) _ _ ⟨0, Nat.zero_le _, rfl, by rw [arrV_new]; rfl⟩ ?_ ?_
  · rintro x rest u d' acts' Q1 ⟨i, hi, hl, rfl⟩ hnext
    have hlt : i < n.toNatClampNeg := by
      rcases Nat.lt_or_ge i n.toNatClampNeg with h | h
      · exact h
      · rw [show n.toNatClampNeg - i = 0 by omega] at hl
        simp at hl
    rw [show n.toNatClampNeg - i = (n.toNatClampNeg - (i + 1)) + 1 by omega, List.range'_succ] at hl
    obtain ⟨rfl, hrest⟩ := List.cons.inj hl
    obtain ⟨X1, j1, j2, j3, j4, j5, j6⟩ := mn_S_ok (cA := cA) (cI := cI) (N := n.toNatClampNeg) (K := k.toNatClampNeg) X hT x
    have hmul : x * k.toNatClampNeg + k.toNatClampNeg ≤ n.toNatClampNeg * k.toNatClampNeg := by
      have h := Nat.mul_le_mul_right k.toNatClampNeg (show x + 1 ≤ n.toNatClampNeg from hlt)
      rw [Nat.succ_mul] at h
      exact h
    simp only [Jvm.Sem.wp_bind']
    rw [Jvm.Op.multianewarray.make]
    simp only [Jvm.Sem.wp_bind', Jvm.W.ite, hk, if_false, Jvm.Sem.wp_pure', Jvm.W.theClass, State.vm_setTop, j1, hkI, hkindI, Option.some.injEq, exists_eq_left']
    refine Jvm.W.newArray_of (k := kI) (comp := cc0) (type := .int) (by simpa [j1] using hkI) hkindI hl2 hh2 (by simp [j2]; omega) (by simp [j3]; omega) rfl (fun acts2 => ?_)
    simp only [Jvm.Sem.wp_bind', Jvm.W.writeLoc, Jvm.Sem.wp_pure']
    have hlt0 : T.heap.size < (mn_S T cA cI n.toNatClampNeg k.toNatClampNeg x).heap.size := by omega
    have hcell : ∀ cl : Cell, (((mn_S T cA cI n.toNatClampNeg k.toNatClampNeg x).setTop f).pushCell cl).heap[(T.setTop f).heap.size]? = some (arrV cA n.toNatClampNeg (fun j => va_rf (if j < x then some (T.heap.size + 1 + j) else none))) := by
      intro cl
      simp only [State.pushCell_setTop, State.heap_setTop]
      rw [State.heap_pushCell_of_lt (h := hlt0)]
      exact j4
    refine ⟨_, hcell _, by simp [arrV], by rw [arrV_size]; exact hlt, ?_, hnext _ _ _ ⟨x + 1, hlt, hrest, ?_⟩⟩
    · simp [State.fitsSlot, State.slotType?, arrV, j1, hkA, hkindA]
      rfl
    · simp only [State.heap_setTop, j2]
      rw [mn_upd, arrV_new]
      rfl
  · rintro u d' acts' ⟨i, hi, hl, rfl⟩
    have hiN : i = n.toNatClampNeg := by
      rcases Nat.lt_or_ge i n.toNatClampNeg with h | h
      · rw [show n.toNatClampNeg - i = (n.toNatClampNeg - (i + 1)) + 1 by omega, List.range'_succ] at hl
        cases hl
      · omega
    subst hiN
    simp only [Jvm.Sem.wp_pure']
    exact hq _ _
theorem mn_W {cc : ByteArray} (hexec : p.tables.exec = Jvm.exec) (hb : c.code = cc) {own : String} {index pc : Nat} {ls : Array Slot} (hown : s.vm.findClass own = some m.cls) (hclink : (Cond.classLink own index ("[" ++ (FieldType.array .int).toString)).before args s = true) (hover : mn_AO s) (harr : (Cond.arrayClass .int).before args s = true)
    {n k : Int32} {rest : List Value} (hn : ¬ n < 0) (hk : ¬ k < 0) (hN : n.toNatClampNeg = N) (hK : k.toNatClampNeg = K) (hb1 : N * 4 ≤ 536870912) (hb2 : K * 4 ≤ 536870912) (hcells : cells + (1 + N) ≤ R.cells) (hslots : slots + (N + N * K) ≤ R.slots) (hdg : decode cc pc = .ok (.multianewarray index 2, 4))
    (kk : ∀ (H1 : Heap) (cA cI : ClassId), s.vm.findClass ("[" ++ (FieldType.array .int).toString) = some cA → s.vm.findClass (FieldType.array .int).toString = some cI → ArrOfT s cA (.array .int) → ArrOfT s cI .int → H1.size = H.size + 1 + N → H1[H.size]? = some (arrV cA N (fun j => va_rf (if j < N then some (H.size + 1 + j) else none))) → (∀ j, j < N → H1[H.size + 1 + j]? = some (arrV cI K (fun _ => .int 0))) → (∀ q, q < H.size → H1[q]? = H[q]?) →
      W p l e R s m args below meth c H1 locs (cells + 1 + N) (slots + N + N * K) Q (F0 m (pc + 4) ls (.ref H.size :: rest))) :
    W p l e R s m args below meth c H locs cells slots Q (F0 m pc ls (.int k :: .int n :: rest)) := by
  intro T hT X
  subst hT
  subst hb
  have hpl : e.platform.magicAccessors = ({} : Platform).magicAccessors := by rw [X.admits.platform]
  obtain ⟨cI, cA, kA, hcI, hkA, hkindA, hcA⟩ := hover
  obtain ⟨cI', kI, cc0, hcI', hkI, hkindI⟩ := Cond.arrayClass_spec harr
  cases Option.some.inj (hcI.symm.trans hcI')
  obtain ⟨c0, hfc0, hcl⟩ := Cond.classLink_spec hown hclink e.platform hpl
  cases Option.some.inj (hcA.symm.trans hfc0)
  obtain ⟨hg₁, hwarm₁, hready₁⟩ := State.classEntry (e := e) X.warmed hcl
  generalize T.vm.noted m.cls index (.cls cA) = vm₁ at hg₁ hwarm₁ hready₁
  have hal : s.vm.Alike vm₁ := hwarm₁.alike
  obtain ⟨kA₁, hkA₁, heA⟩ := hal.2.2 _ _ hkA
  obtain ⟨kI₁, hkI₁, heI⟩ := hal.2.2 _ _ hkI
  have hkindA₁ : kA₁.kind = .array cI (.array .int) := by rw [heA]; exact hkindA
  have hkindI₁ : kI₁.kind = .array cc0 .int := by rw [heI]; exact hkindI
  have X₁ := X.noted hwarm₁
  obtain ⟨hr1, hr2⟩ := X.roomAbove hcells hslots
  have hl1 : ¬ N > e.platform.arrayLengthLimit := by rw [Launch.admits_arrayLengthLimit X.admits]; omega
  have hh1 : ¬ N * componentBytes (.array .int) > e.platform.maxHeapBytes := by rw [Launch.admits_maxHeapBytes X.admits]; show ¬ N * 4 > 536870912; omega
  have hl2 : ¬ K > e.platform.arrayLengthLimit := by rw [Launch.admits_arrayLengthLimit X.admits]; omega
  have hh2 : ¬ K * componentBytes .int > e.platform.maxHeapBytes := by rw [Launch.admits_maxHeapBytes X.admits]; show ¬ K * 4 > 536870912; omega
  obtain ⟨XN, j1, j2, j3, j4, j5, j6⟩ := mn_S_ok (cA := cA) (cI := cI) (N := N) (K := K) X₁ X.heapGrown N
  obtain ⟨t, a1, b1⟩ := kk _ cA cI hcA hcI (fun n z => ⟨fun k h => (by cases h), kA, hkA, cI, hkindA⟩) (fun n z => ⟨fun k h => (by cases h), kI, hkI, cc0, hkindI⟩) j2 j4 j5 j6 _ rfl XN
  refine ⟨t, ?_, b1⟩
  jvm_step X.here [hexec, hdg]
  simp only [Jvm.Op.multianewarray.sem, Jvm.Sem.wp_bind', Jvm.W.resolveClassAt_links (State.method?_setTop (F0 m pc ls (.int k :: .int n :: rest)) X.here.top) hg₁]
  rw [Jvm.W.popN, if_neg (by decide)]
  refine ⟨_, State.topJava?_setTop' (s := T.setVm vm₁) (F0 m pc ls (.int k :: .int n :: rest)) X.here.top, [.int n, .int k], rest, rfl, rfl, ?_⟩
  simp only [List.mapM_cons, List.mapM_nil, Jvm.Sem.wp_bind', Jvm.Sem.wp_pure']
  have eS : ∀ (g g' : JFrame), ((T.setTop g).setVm vm₁).setTop g' = (T.setVm vm₁).setTop g' := fun g g' => by
    show ((T.setVm vm₁).setTop g).setTop _ = _
    rw [State.setTop_setTop]
  rw [eS]
  refine mn_wp (cA := cA) (cI := cI) (N := N) (K := K) X₁ X.heapGrown hkA₁ hkindA₁ hkI₁ hkindI₁ hn hk hN hK hl1 hh1 hl2 hh2 hr1 hr2 (fun d' acts' => ?_)
  simp only [Jvm.Sem.wp_bind', Jvm.W.mark, Jvm.W.pushRef, State.topJava?_setTop' _ XN.here.top, Option.some.injEq, exists_eq_left', State.setTop_setTop, State.heap_setTop]
  simp [jvm, XN.here.top]
  exact a1
end MNB
