theorem d_Le_init_0 : decode c_Le_init 0 = .ok (.aload_n 0, 1) := by decide +kernel
theorem d_Le_init_1 : decode c_Le_init 1 = .ok (.invokespecial 3, 3) := by decide +kernel
theorem d_Le_init_4 : decode c_Le_init 4 = .ok (.aload_n 0, 1) := by decide +kernel
theorem d_Le_init_5 : decode c_Le_init 5 = .ok (.bipush 60, 2) := by decide +kernel
theorem d_Le_init_7 : decode c_Le_init 7 = .ok (.newarray .int, 2) := by decide +kernel
theorem d_Le_init_9 : decode c_Le_init 9 = .ok (.putfield 9, 3) := by decide +kernel
theorem d_Le_init_12 : decode c_Le_init 12 = .ok (.aload_n 0, 1) := by decide +kernel
theorem d_Le_init_13 : decode c_Le_init 13 = .ok (.bipush 60, 2) := by decide +kernel
theorem d_Le_init_15 : decode c_Le_init 15 = .ok (.newarray .int, 2) := by decide +kernel
theorem d_Le_init_17 : decode c_Le_init 17 = .ok (.putfield 15, 3) := by decide +kernel
theorem d_Le_init_20 : decode c_Le_init 20 = .ok (.aload_n 0, 1) := by decide +kernel
theorem d_Le_init_21 : decode c_Le_init 21 = .ok (.bipush 60, 2) := by decide +kernel
theorem d_Le_init_23 : decode c_Le_init 23 = .ok (.newarray .int, 2) := by decide +kernel
theorem d_Le_init_25 : decode c_Le_init 25 = .ok (.putfield 18, 3) := by decide +kernel
theorem d_Le_init_28 : decode c_Le_init 28 = .ok (.aload_n 0, 1) := by decide +kernel
theorem d_Le_init_29 : decode c_Le_init 29 = .ok (.bipush 60, 2) := by decide +kernel
theorem d_Le_init_31 : decode c_Le_init 31 = .ok (.newarray .int, 2) := by decide +kernel
theorem d_Le_init_33 : decode c_Le_init 33 = .ok (.putfield 21, 3) := by decide +kernel
theorem d_Le_init_36 : decode c_Le_init 36 = .ok (.aload_n 0, 1) := by decide +kernel
theorem d_Le_init_37 : decode c_Le_init 37 = .ok (.bipush 60, 2) := by decide +kernel
theorem d_Le_init_39 : decode c_Le_init 39 = .ok (.newarray .boolean, 2) := by decide +kernel
theorem d_Le_init_41 : decode c_Le_init 41 = .ok (.putfield 24, 3) := by decide +kernel
theorem d_Le_init_44 : decode c_Le_init 44 = .ok (.aload_n 0, 1) := by decide +kernel
theorem d_Le_init_45 : decode c_Le_init 45 = .ok (.bipush 60, 2) := by decide +kernel
theorem d_Le_init_47 : decode c_Le_init 47 = .ok (.newarray .boolean, 2) := by decide +kernel
theorem d_Le_init_49 : decode c_Le_init 49 = .ok (.putfield 28, 3) := by decide +kernel
theorem d_Le_init_52 : decode c_Le_init 52 = .ok (.aload_n 0, 1) := by decide +kernel
theorem d_Le_init_53 : decode c_Le_init 53 = .ok (.iconst 0, 1) := by decide +kernel
theorem d_Le_init_54 : decode c_Le_init 54 = .ok (.putfield 31, 3) := by decide +kernel
theorem d_Le_init_57 : decode c_Le_init 57 = .ok (.return_, 1) := by decide +kernel
abbrev rm_Le_init : Room := { frames := 1, cells := 6, slots := 360, locals := 12 }
set_option maxHeartbeats 4000000 in
set_option maxRecDepth 100000 in
theorem k_Le_init (l : Launch) (g : Gx) (sz : Nat) (h0 : Nat) : ct_MC l y_Le_init c_Le_init 1 rm_Le_init g [(h0, .inr (1, [.null, .null, .null, .null, .null, .null, .int 0]))] sz [.ref h0] (fun u => ∃ q1 q2 q3 q4 q5 q6 : Nat, u = [(h0, .inr (1, [.ref q1, .ref q2, .ref q3, .ref q4, .ref q5, .ref q6, .int 0])), (q1, .inl (g.2.2 0, 60, .inl (fun _ => 0))), (q2, .inl (g.2.2 0, 60, .inl (fun _ => 0))), (q3, .inl (g.2.2 0, 60, .inl (fun _ => 0))), (q4, .inl (g.2.2 0, 60, .inl (fun _ => 0))), (q5, .inl (g.2.2 1, 60, .inl (fun _ => 0))), (q6, .inl (g.2.2 1, 60, .inl (fun _ => 0)))]) 6 360 := by
  refine ct_startC (by decide +kernel) (Nat.le_of_ble_eq_true rfl) (fun p e sv m args below meth c ls Q A H locs C0 hin hret hl hw => ?_)
  have hx := C0.1
  have hb := C0.2.1
  have hown := C0.2.2.2.1
  have hts := C0.2.2.2.2.1
  have hl : lv_has ls 1 [(0, .ref h0)] := hl
  refine lv_aload_n hx hb d_Le_init_0 rfl (lv_at hl 0 rfl) ?_
  refine ct_objI C0 wd_29 wd_22 wd_23 hl.1 (by decide) (by decide) d_Le_init_1 ?_
  refine lv_aload_n hx hb d_Le_init_4 rfl (lv_at hl 0 rfl) ?_
  refine lv_bipush (v := 60) hx hb d_Le_init_5 (by decide) ?_
  refine ct_newa (atype := .int) (ty := .int) (t0 := 0) (N := 60) (a0 := (60, .inl (fun _ => 0))) C0 hw wd_62 rfl rfl (fun _ x y => Option.some.inj (x.symm.trans y)) (fun _ => rfl) (by decide) (by decide) (Nat.le_of_ble_eq_true rfl) (Nat.le_of_ble_eq_true rfl) (Nat.le_of_ble_eq_true rfl) d_Le_init_7 (fun q1 H hw => ?_)
  have hw : ct_Wd g A sv [(h0, .inr (1, [.null, .null, .null, .null, .null, .null, .int 0])), (q1, .inl (g.2.2 0, 60, .inl (fun _ => 0)))] H locs := hw
  refine va_putF (D := g.1) (ci := 1) (v := .ref q1) (ty := .array .int) (C := R_Le) (T := T_Le) (N := 7) hx hb hts in_Le ty_Le tk_Le nm_Le hown C0.2.2.2.2.2.1.1 hw.1 hw.2.1 hw.2.2 0 rfl rfl 0 (by decide) (C0.2.2.2.2.1 _ wd_30) (fun _ h => h) rfl hin rfl (by decide +kernel) rfl rfl (Nat.le_of_ble_eq_true rfl) d_Le_init_9 (fun H locs hP hD hS => ?_)
  have hw : ct_Wd g A sv [(h0, .inr (1, [.ref q1, .null, .null, .null, .null, .null, .int 0])), (q1, .inl (g.2.2 0, 60, .inl (fun _ => 0)))] H locs := ⟨hP, hD, hS⟩
  refine lv_aload_n hx hb d_Le_init_12 rfl (lv_at hl 0 rfl) ?_
  refine lv_bipush (v := 60) hx hb d_Le_init_13 (by decide) ?_
  refine ct_newa (atype := .int) (ty := .int) (t0 := 0) (N := 60) (a0 := (60, .inl (fun _ => 0))) C0 hw wd_62 rfl rfl (fun _ x y => Option.some.inj (x.symm.trans y)) (fun _ => rfl) (by decide) (by decide) (Nat.le_of_ble_eq_true rfl) (Nat.le_of_ble_eq_true rfl) (Nat.le_of_ble_eq_true rfl) d_Le_init_15 (fun q2 H hw => ?_)
  have hw : ct_Wd g A sv [(h0, .inr (1, [.ref q1, .null, .null, .null, .null, .null, .int 0])), (q1, .inl (g.2.2 0, 60, .inl (fun _ => 0))), (q2, .inl (g.2.2 0, 60, .inl (fun _ => 0)))] H locs := hw
  refine va_putF (D := g.1) (ci := 1) (v := .ref q2) (ty := .array .int) (C := R_Le) (T := T_Le) (N := 7) hx hb hts in_Le ty_Le tk_Le nm_Le hown C0.2.2.2.2.2.1.1 hw.1 hw.2.1 hw.2.2 0 rfl rfl 1 (by decide) (C0.2.2.2.2.1 _ wd_31) (fun _ h => h) rfl hin rfl (by decide +kernel) rfl rfl (Nat.le_of_ble_eq_true rfl) d_Le_init_17 (fun H locs hP hD hS => ?_)
  have hw : ct_Wd g A sv [(h0, .inr (1, [.ref q1, .ref q2, .null, .null, .null, .null, .int 0])), (q1, .inl (g.2.2 0, 60, .inl (fun _ => 0))), (q2, .inl (g.2.2 0, 60, .inl (fun _ => 0)))] H locs := ⟨hP, hD, hS⟩
  refine lv_aload_n hx hb d_Le_init_20 rfl (lv_at hl 0 rfl) ?_
  refine lv_bipush (v := 60) hx hb d_Le_init_21 (by decide) ?_
  refine ct_newa (atype := .int) (ty := .int) (t0 := 0) (N := 60) (a0 := (60, .inl (fun _ => 0))) C0 hw wd_62 rfl rfl (fun _ x y => Option.some.inj (x.symm.trans y)) (fun _ => rfl) (by decide) (by decide) (Nat.le_of_ble_eq_true rfl) (Nat.le_of_ble_eq_true rfl) (Nat.le_of_ble_eq_true rfl) d_Le_init_23 (fun q3 H hw => ?_)
  have hw : ct_Wd g A sv [(h0, .inr (1, [.ref q1, .ref q2, .null, .null, .null, .null, .int 0])), (q1, .inl (g.2.2 0, 60, .inl (fun _ => 0))), (q2, .inl (g.2.2 0, 60, .inl (fun _ => 0))), (q3, .inl (g.2.2 0, 60, .inl (fun _ => 0)))] H locs := hw
  refine va_putF (D := g.1) (ci := 1) (v := .ref q3) (ty := .array .int) (C := R_Le) (T := T_Le) (N := 7) hx hb hts in_Le ty_Le tk_Le nm_Le hown C0.2.2.2.2.2.1.1 hw.1 hw.2.1 hw.2.2 0 rfl rfl 2 (by decide) (C0.2.2.2.2.1 _ wd_34) (fun _ h => h) rfl hin rfl (by decide +kernel) rfl rfl (Nat.le_of_ble_eq_true rfl) d_Le_init_25 (fun H locs hP hD hS => ?_)
  have hw : ct_Wd g A sv [(h0, .inr (1, [.ref q1, .ref q2, .ref q3, .null, .null, .null, .int 0])), (q1, .inl (g.2.2 0, 60, .inl (fun _ => 0))), (q2, .inl (g.2.2 0, 60, .inl (fun _ => 0))), (q3, .inl (g.2.2 0, 60, .inl (fun _ => 0)))] H locs := ⟨hP, hD, hS⟩
  refine lv_aload_n hx hb d_Le_init_28 rfl (lv_at hl 0 rfl) ?_
  refine lv_bipush (v := 60) hx hb d_Le_init_29 (by decide) ?_
  refine ct_newa (atype := .int) (ty := .int) (t0 := 0) (N := 60) (a0 := (60, .inl (fun _ => 0))) C0 hw wd_62 rfl rfl (fun _ x y => Option.some.inj (x.symm.trans y)) (fun _ => rfl) (by decide) (by decide) (Nat.le_of_ble_eq_true rfl) (Nat.le_of_ble_eq_true rfl) (Nat.le_of_ble_eq_true rfl) d_Le_init_31 (fun q4 H hw => ?_)
  have hw : ct_Wd g A sv [(h0, .inr (1, [.ref q1, .ref q2, .ref q3, .null, .null, .null, .int 0])), (q1, .inl (g.2.2 0, 60, .inl (fun _ => 0))), (q2, .inl (g.2.2 0, 60, .inl (fun _ => 0))), (q3, .inl (g.2.2 0, 60, .inl (fun _ => 0))), (q4, .inl (g.2.2 0, 60, .inl (fun _ => 0)))] H locs := hw
  refine va_putF (D := g.1) (ci := 1) (v := .ref q4) (ty := .array .int) (C := R_Le) (T := T_Le) (N := 7) hx hb hts in_Le ty_Le tk_Le nm_Le hown C0.2.2.2.2.2.1.1 hw.1 hw.2.1 hw.2.2 0 rfl rfl 3 (by decide) (C0.2.2.2.2.1 _ wd_37) (fun _ h => h) rfl hin rfl (by decide +kernel) rfl rfl (Nat.le_of_ble_eq_true rfl) d_Le_init_33 (fun H locs hP hD hS => ?_)
  have hw : ct_Wd g A sv [(h0, .inr (1, [.ref q1, .ref q2, .ref q3, .ref q4, .null, .null, .int 0])), (q1, .inl (g.2.2 0, 60, .inl (fun _ => 0))), (q2, .inl (g.2.2 0, 60, .inl (fun _ => 0))), (q3, .inl (g.2.2 0, 60, .inl (fun _ => 0))), (q4, .inl (g.2.2 0, 60, .inl (fun _ => 0)))] H locs := ⟨hP, hD, hS⟩
  refine lv_aload_n hx hb d_Le_init_36 rfl (lv_at hl 0 rfl) ?_
  refine lv_bipush (v := 60) hx hb d_Le_init_37 (by decide) ?_
  refine ct_newa (atype := .boolean) (ty := .boolean) (t0 := 1) (N := 60) (a0 := (60, .inl (fun _ => 0))) C0 hw wd_63 rfl rfl (fun _ x y => Option.some.inj (x.symm.trans y)) (fun _ => rfl) (by decide) (by decide) (Nat.le_of_ble_eq_true rfl) (Nat.le_of_ble_eq_true rfl) (Nat.le_of_ble_eq_true rfl) d_Le_init_39 (fun q5 H hw => ?_)
  have hw : ct_Wd g A sv [(h0, .inr (1, [.ref q1, .ref q2, .ref q3, .ref q4, .null, .null, .int 0])), (q1, .inl (g.2.2 0, 60, .inl (fun _ => 0))), (q2, .inl (g.2.2 0, 60, .inl (fun _ => 0))), (q3, .inl (g.2.2 0, 60, .inl (fun _ => 0))), (q4, .inl (g.2.2 0, 60, .inl (fun _ => 0))), (q5, .inl (g.2.2 1, 60, .inl (fun _ => 0)))] H locs := hw
  refine va_putF (D := g.1) (ci := 1) (v := .ref q5) (ty := .array .boolean) (C := R_Le) (T := T_Le) (N := 7) hx hb hts in_Le ty_Le tk_Le nm_Le hown C0.2.2.2.2.2.1.1 hw.1 hw.2.1 hw.2.2 0 rfl rfl 4 (by decide) (C0.2.2.2.2.1 _ wd_40) (fun _ h => h) rfl hin rfl (by decide +kernel) rfl rfl (Nat.le_of_ble_eq_true rfl) d_Le_init_41 (fun H locs hP hD hS => ?_)
  have hw : ct_Wd g A sv [(h0, .inr (1, [.ref q1, .ref q2, .ref q3, .ref q4, .ref q5, .null, .int 0])), (q1, .inl (g.2.2 0, 60, .inl (fun _ => 0))), (q2, .inl (g.2.2 0, 60, .inl (fun _ => 0))), (q3, .inl (g.2.2 0, 60, .inl (fun _ => 0))), (q4, .inl (g.2.2 0, 60, .inl (fun _ => 0))), (q5, .inl (g.2.2 1, 60, .inl (fun _ => 0)))] H locs := ⟨hP, hD, hS⟩
  refine lv_aload_n hx hb d_Le_init_44 rfl (lv_at hl 0 rfl) ?_
  refine lv_bipush (v := 60) hx hb d_Le_init_45 (by decide) ?_
  refine ct_newa (atype := .boolean) (ty := .boolean) (t0 := 1) (N := 60) (a0 := (60, .inl (fun _ => 0))) C0 hw wd_63 rfl rfl (fun _ x y => Option.some.inj (x.symm.trans y)) (fun _ => rfl) (by decide) (by decide) (Nat.le_of_ble_eq_true rfl) (Nat.le_of_ble_eq_true rfl) (Nat.le_of_ble_eq_true rfl) d_Le_init_47 (fun q6 H hw => ?_)
  have hw : ct_Wd g A sv [(h0, .inr (1, [.ref q1, .ref q2, .ref q3, .ref q4, .ref q5, .null, .int 0])), (q1, .inl (g.2.2 0, 60, .inl (fun _ => 0))), (q2, .inl (g.2.2 0, 60, .inl (fun _ => 0))), (q3, .inl (g.2.2 0, 60, .inl (fun _ => 0))), (q4, .inl (g.2.2 0, 60, .inl (fun _ => 0))), (q5, .inl (g.2.2 1, 60, .inl (fun _ => 0))), (q6, .inl (g.2.2 1, 60, .inl (fun _ => 0)))] H locs := hw
  refine va_putF (D := g.1) (ci := 1) (v := .ref q6) (ty := .array .boolean) (C := R_Le) (T := T_Le) (N := 7) hx hb hts in_Le ty_Le tk_Le nm_Le hown C0.2.2.2.2.2.1.1 hw.1 hw.2.1 hw.2.2 0 rfl rfl 5 (by decide) (C0.2.2.2.2.1 _ wd_42) (fun _ h => h) rfl hin rfl (by decide +kernel) rfl rfl (Nat.le_of_ble_eq_true rfl) d_Le_init_49 (fun H locs hP hD hS => ?_)
  have hw : ct_Wd g A sv [(h0, .inr (1, [.ref q1, .ref q2, .ref q3, .ref q4, .ref q5, .ref q6, .int 0])), (q1, .inl (g.2.2 0, 60, .inl (fun _ => 0))), (q2, .inl (g.2.2 0, 60, .inl (fun _ => 0))), (q3, .inl (g.2.2 0, 60, .inl (fun _ => 0))), (q4, .inl (g.2.2 0, 60, .inl (fun _ => 0))), (q5, .inl (g.2.2 1, 60, .inl (fun _ => 0))), (q6, .inl (g.2.2 1, 60, .inl (fun _ => 0)))] H locs := ⟨hP, hD, hS⟩
  refine lv_aload_n hx hb d_Le_init_52 rfl (lv_at hl 0 rfl) ?_
  refine lv_iconst (v := 0) hx hb d_Le_init_53 (by decide) ?_
  refine va_put (D := g.1) (ci := 1) (v := .int 0) (ty := .int) (C := R_Le) (T := T_Le) (N := 7) hx hb hts in_Le ty_Le tk_Le nm_Le hown C0.2.2.2.2.2.1.1 hw.1 hw.2.1 hw.2.2 0 rfl rfl 6 (by decide) (C0.2.2.2.2.1 _ wd_44) (fun _ h => h) rfl (by decide +kernel) rfl rfl (Nat.le_of_ble_eq_true rfl) d_Le_init_54 (fun H locs hP hD hS => ?_)
  have hw : ct_Wd g A sv [(h0, .inr (1, [.ref q1, .ref q2, .ref q3, .ref q4, .ref q5, .ref q6, .int 0])), (q1, .inl (g.2.2 0, 60, .inl (fun _ => 0))), (q2, .inl (g.2.2 0, 60, .inl (fun _ => 0))), (q3, .inl (g.2.2 0, 60, .inl (fun _ => 0))), (q4, .inl (g.2.2 0, 60, .inl (fun _ => 0))), (q5, .inl (g.2.2 1, 60, .inl (fun _ => 0))), (q6, .inl (g.2.2 1, 60, .inl (fun _ => 0)))] H locs := ⟨hP, hD, hS⟩
  exact hret hw ⟨q1, q2, q3, q4, q5, q6, rfl⟩ (by decide) (by decide) d_Le_init_57
