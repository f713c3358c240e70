def cs_0 : CS := (fun k => if k = 2 then 12 else if k = 4 then 1 else if k = 6 then 3 else 0, fun _ _ => 0, fun _ _ => 0, fun _ _ => 0, fun f => if f < 8 then (1, 1, 0) else (0, 1, 0))
def ms_0 : MS := (fun k => if k = 3 then 12 else if k = 5 then 1 else if k = 7 then 3 else 0, fun _ => 0, fun _ _ => 0, fun _ => vp_updL (vp_updL (vp_updL (fun _ => 0) 0 1) 1 1) 2 1)
theorem st_tbl {w : Cond} (h : w ∈ Wds) : w ∈ lw_tbl := (List.mem_filter.mp h).1
theorem st_arr {args : Array Value} {s : State} {ty : FieldType} (h : (Cond.arrayClass ty).before args s = true) (hn : ∀ C, ty ≠ .object C) : ∃ c, ArrOfT s c ty ∧ va_RA s c ty := by
  obtain ⟨c, k, comp, h1, h2, h3⟩ := Cond.arrayClass_spec h
  refine ⟨c, fun n z => ⟨fun k h => (by cases h), k, h2, comp, h3⟩, ?_⟩
  cases ty with
  | object C => exact absurd rfl (hn C)
  | _ => exact h1
theorem st_str {args : Array Value} {s : State} {k : Nat} {tx : String} (h1 : (Cond.stringRef R_CT k tx).before args s = true) (h2 : (Cond.exactly (.string R_CT k) "java/lang/String").before args s = true) : vk_R R_CT k tx ((fun k => match (Term.string R_CT k).eval #[] s none [] s with
    | some (.ref a) => a
    | _ => 0) k) s := by
  obtain ⟨a, _, _, _, h3, -⟩ := Cond.exactly_spec h2
  have h4 : (Term.string R_CT k).eval #[] s none [] s = some (.ref a) := h3
  refine vk_R.of (A := args) h1 ?_
  show (Term.string R_CT k).eval #[] s none [] s = _
  dsimp only
  rw [h4]
set_option maxHeartbeats 4000000 in
/-- what the walks need of the start -/
theorem st_ev {args : Array Value} {s : State} (hts : ∀ w ∈ lw_tbl, w.before args s = true) (hgv : (Jvm.Cond.and given_1 narrow_1).before args s = true) : ∃ (D : va_G) (cl : Nat → ClassId), ∀ ad : Nat → Nat, ct_Ev (D, ad, cl) (fun q => s.heap.size ≤ q) s s.heap := by
  have hs := flat_of_before _ hgv
  have hW : ∀ w ∈ Wds, w.before args s = true := fun w h => hts w (st_tbl h)
  obtain ⟨c09, i09, k09⟩ := u_known (C := R_Fr) (T := T_Fr) (N := 3) (n := 3) hW in_Fr (hW _ wd_116)
  obtain ⟨c19, i19, k19⟩ := u_known (C := R_Le) (T := T_Le) (N := 7) (n := 7) hW in_Le (hW _ wd_25)
  obtain ⟨c29, i29, k29⟩ := u_known (C := R_Re) (T := T_Re) (N := 7) (n := 7) hW in_Re (hW _ wd_65)
  obtain ⟨c39, i39, k39⟩ := u_known (C := R_Te) (T := T_Te) (N := 5) (n := 5) hW in_Te (hW _ wd_109)
  obtain ⟨c49, i49, k49⟩ := u_known (C := R_Tr) (T := T_Tr) (N := 7) (n := 7) hW in_Tr (hW _ wd_71)
  obtain ⟨c59, i59, k59⟩ := u_known (C := R_CT) (T := T_CT) (N := 4) (n := 4) hW in_CT (hW _ wd_17)
  obtain ⟨c69, i69, k69⟩ := u_known (C := R_Mo) (T := T_Mo) (N := 26) (n := 26) hW in_Mo (hW _ wd_705)
  obtain ⟨y09, a09, r09⟩ := st_arr (hW _ wd_62) (fun C h => by cases h)
  obtain ⟨y19, a19, r19⟩ := st_arr (hW _ wd_63) (fun C h => by cases h)
  obtain ⟨y29, a29, r29⟩ := st_arr (hW _ wd_789) (fun C h => by cases h)
  have hao : mn_AO s := mn_over (args := args) (hts _ (List.mem_append_right _ (List.mem_of_getElem? (i := 77) (by decide +kernel))))
  have hfo : va_AO R_Fr s := va_AO.of (A := args) (hts _ (List.mem_append_right _ (List.mem_of_getElem? (i := 157) (by decide +kernel))))
  obtain ⟨cI, cA, kA, q1, q2, q3, q4⟩ := hao
  obtain ⟨f1, f2, f3, f4, f5, f6, f7, f8⟩ := Cond.arrayOver_spec (va_AO.use (A := args) hfo)
  refine ⟨(fun k => if k = 0 then c09 else if k = 1 then c19 else if k = 2 then c29 else if k = 3 then c39 else if k = 4 then c49 else if k = 5 then c59 else c69, fun k => if k = 0 then i09 else if k = 1 then i19 else if k = 2 then i29 else if k = 3 then i39 else if k = 4 then i49 else if k = 5 then i59 else i69), fun k => if k = 0 then y09 else if k = 1 then y19 else if k = 2 then y29 else if k = 3 then cA else f2, fun ad => ⟨⟨fun k q hq => ?_, fun k q hq => ?_⟩, fun w hw => ?_, ⟨(fun k => match (Term.string R_CT k).eval #[] s none [] s with
    | some (.ref a) => a
    | _ => 0), fun q hq => ?_⟩, vx_Zqof (args := args) (hts _ (by decide +kernel)) (hts _ (by decide +kernel)) (hs _ (by decide +kernel)) (fun a h9 => Nat.not_le.mpr h9), vx_Zqof (args := args) (hts _ (by decide +kernel)) (hts _ (by decide +kernel)) (hs _ (by decide +kernel)) (fun a h9 => Nat.not_le.mpr h9), hfo, ⟨cI, cA, kA, q1, q2, q3, q4⟩, va_Nc.of (hs _ (by decide +kernel)), va_Nc.of (hs _ (by decide +kernel)), va_Nc.of (hs _ (by decide +kernel)), va_Nc.of (hs _ (by decide +kernel))⟩⟩
  · match k, hq with
    | 0, hq => cases hq; exact k09
    | 1, hq => cases hq; exact k19
    | 2, hq => cases hq; exact k29
    | 3, hq => cases hq; exact k39
    | 4, hq => cases hq; exact k49
    | 5, hq => cases hq; exact k59
    | 6, hq => cases hq; exact k69
    | k + 7, hq => simp [kl] at hq
  · match k, hq with
    | 0, hq => cases hq; exact ⟨a09, r09⟩
    | 1, hq => cases hq; exact ⟨a19, r19⟩
    | 2, hq => cases hq; exact ⟨a29, r29⟩
    | 3, hq => cases hq; exact ⟨fun n z => ⟨fun k h => (by cases h), kA, q2, cI, q3⟩, q4⟩
    | 4, hq => cases hq; exact ⟨fun n z => ⟨fun k h => (by cases h), f3, f6, f1, f7⟩, f3, f1, f6, f7, f4, f8⟩
    | k + 5, hq => simp [ct_ty] at hq
  · have h1 := (List.mem_filter.mp hw)
    have h2 := hts w (List.mem_append_right _ h1.1)
    cases w <;> first | exact va_Nw.of rfl h2 | cases h1.2
  · have h5 : ∀ q ∈ ct_str, Cond.stringRef R_CT q.1 q.2 ∈ lw_tbl := by decide +kernel
    have h6 : ∀ q ∈ ct_str, (Cond.exactly (.string R_CT q.1) "java/lang/String").before args s = true := by
      intro q hq
      exact hs _ ((by decide +kernel : ∀ q ∈ ct_str, Cond.exactly (.string R_CT q.1) "java/lang/String" ∈ _) q hq)
    exact st_str (hts _ (h5 q hq)) (h6 q hq)
