theorem d_Tr_init_0 : decode c_Tr_init 0 = .ok (.aload_n 0, 1) := by decide +kernel
theorem d_Tr_init_1 : decode c_Tr_init 1 = .ok (.invokespecial 3, 3) := by decide +kernel
theorem d_Tr_init_4 : decode c_Tr_init 4 = .ok (.aload_n 0, 1) := by decide +kernel
theorem d_Tr_init_5 : decode c_Tr_init 5 = .ok (.bipush 6, 2) := by decide +kernel
theorem d_Tr_init_7 : decode c_Tr_init 7 = .ok (.bipush 6, 2) := by decide +kernel
theorem d_Tr_init_9 : decode c_Tr_init 9 = .ok (.multianewarray 9 2, 4) := by decide +kernel
theorem d_Tr_init_13 : decode c_Tr_init 13 = .ok (.putfield 11, 3) := by decide +kernel
theorem d_Tr_init_16 : decode c_Tr_init 16 = .ok (.aload_n 0, 1) := by decide +kernel
theorem d_Tr_init_17 : decode c_Tr_init 17 = .ok (.bipush 36, 2) := by decide +kernel
theorem d_Tr_init_19 : decode c_Tr_init 19 = .ok (.newarray .boolean, 2) := by decide +kernel
theorem d_Tr_init_21 : decode c_Tr_init 21 = .ok (.putfield 16, 3) := by decide +kernel
theorem d_Tr_init_24 : decode c_Tr_init 24 = .ok (.aload_n 0, 1) := by decide +kernel
theorem d_Tr_init_25 : decode c_Tr_init 25 = .ok (.iconst 0, 1) := by decide +kernel
theorem d_Tr_init_26 : decode c_Tr_init 26 = .ok (.putfield 20, 3) := by decide +kernel
theorem d_Tr_init_29 : decode c_Tr_init 29 = .ok (.aload_n 0, 1) := by decide +kernel
theorem d_Tr_init_30 : decode c_Tr_init 30 = .ok (.bipush 12, 2) := by decide +kernel
theorem d_Tr_init_32 : decode c_Tr_init 32 = .ok (.putfield 24, 3) := by decide +kernel
theorem d_Tr_init_35 : decode c_Tr_init 35 = .ok (.aload_n 0, 1) := by decide +kernel
theorem d_Tr_init_36 : decode c_Tr_init 36 = .ok (.iconst 0, 1) := by decide +kernel
theorem d_Tr_init_37 : decode c_Tr_init 37 = .ok (.putfield 27, 3) := by decide +kernel
theorem d_Tr_init_40 : decode c_Tr_init 40 = .ok (.aload_n 0, 1) := by decide +kernel
theorem d_Tr_init_41 : decode c_Tr_init 41 = .ok (.iconst 1, 1) := by decide +kernel
theorem d_Tr_init_42 : decode c_Tr_init 42 = .ok (.putfield 31, 3) := by decide +kernel
theorem d_Tr_init_45 : decode c_Tr_init 45 = .ok (.aload_n 0, 1) := by decide +kernel
theorem d_Tr_init_46 : decode c_Tr_init 46 = .ok (.iconst 0, 1) := by decide +kernel
theorem d_Tr_init_47 : decode c_Tr_init 47 = .ok (.putfield 34, 3) := by decide +kernel
theorem d_Tr_init_50 : decode c_Tr_init 50 = .ok (.return_, 1) := by decide +kernel
abbrev rm_Tr_init : Room := { frames := 1, cells := 8, slots := 78, locals := 12 }
set_option maxHeartbeats 4000000 in
set_option maxRecDepth 100000 in
theorem k_Tr_init (l : Launch) (g : Gx) (sz : Nat) (h0 : Nat) : ct_MC l y_Tr_init c_Tr_init 1 rm_Tr_init g [(h0, .inr (4, [.null, .null, .int 0, .int 0, .int 0, .int 0, .int 0]))] sz [.ref h0] (fun u => ∃ q1 q2 : Nat, u = [(h0, .inr (4, [.ref q1, .ref q2, .int 0, .int 12, .int 0, .int 1, .int 0])), (q1, .inl (g.2.2 3, 6, .inr (.inr (.inr (.inr (fun j => if j < 6 then some (q1 + 1 + j) else none)))))), (q1 + 1 + 0, .inl (g.2.2 0, 6, .inl (fun _ => 0))), (q1 + 1 + 1, .inl (g.2.2 0, 6, .inl (fun _ => 0))), (q1 + 1 + 2, .inl (g.2.2 0, 6, .inl (fun _ => 0))), (q1 + 1 + 3, .inl (g.2.2 0, 6, .inl (fun _ => 0))), (q1 + 1 + 4, .inl (g.2.2 0, 6, .inl (fun _ => 0))), (q1 + 1 + 5, .inl (g.2.2 0, 6, .inl (fun _ => 0))), (q2, .inl (g.2.2 1, 36, .inl (fun _ => 0)))]) 8 78 := by
  refine ct_startC (by decide +kernel) (Nat.le_of_ble_eq_true rfl) (fun p e sv m args below meth c ls Q A H locs C0 hin hret hl hw => ?_)
  have hx := C0.1
  have hb := C0.2.1
  have hown := C0.2.2.2.1
  have hts := C0.2.2.2.2.1
  have hl : lv_has ls 1 [(0, .ref h0)] := hl
  refine lv_aload_n hx hb d_Tr_init_0 rfl (lv_at hl 0 rfl) ?_
  refine ct_objI C0 wd_75 wd_22 wd_23 hl.1 (by decide) (by decide) d_Tr_init_1 ?_
  refine lv_aload_n hx hb d_Tr_init_4 rfl (lv_at hl 0 rfl) ?_
  refine lv_bipush (v := 6) hx hb d_Tr_init_5 (by decide) ?_
  refine lv_bipush (v := 6) hx hb d_Tr_init_7 (by decide) ?_
  refine ct_mna (N := 6) (K := 6) C0 hw wd_76 wd_62 (by decide) (by decide) (by decide) (by decide) (Nat.le_of_ble_eq_true rfl) (Nat.le_of_ble_eq_true rfl) (Nat.le_of_ble_eq_true rfl) (Nat.le_of_ble_eq_true rfl) d_Tr_init_9 (fun q1 H hw => ?_)
  have hw : ct_Wd g A sv [(h0, .inr (4, [.null, .null, .int 0, .int 0, .int 0, .int 0, .int 0])), (q1, .inl (g.2.2 3, 6, .inr (.inr (.inr (.inr (fun j => if j < 6 then some (q1 + 1 + j) else none)))))), (q1 + 1 + 0, .inl (g.2.2 0, 6, .inl (fun _ => 0))), (q1 + 1 + 1, .inl (g.2.2 0, 6, .inl (fun _ => 0))), (q1 + 1 + 2, .inl (g.2.2 0, 6, .inl (fun _ => 0))), (q1 + 1 + 3, .inl (g.2.2 0, 6, .inl (fun _ => 0))), (q1 + 1 + 4, .inl (g.2.2 0, 6, .inl (fun _ => 0))), (q1 + 1 + 5, .inl (g.2.2 0, 6, .inl (fun _ => 0)))] H locs := hw
  refine va_putF (D := g.1) (ci := 4) (v := .ref q1) (ty := .array (.array .int)) (C := R_Tr) (T := T_Tr) (N := 7) hx hb hts in_Tr ty_Tr tk_Tr nm_Tr hown C0.2.2.2.2.2.1.1 hw.1 hw.2.1 hw.2.2 0 rfl rfl 0 (by decide) (C0.2.2.2.2.1 _ wd_78) (fun _ h => h) rfl hin rfl (by decide +kernel) rfl rfl (Nat.le_of_ble_eq_true rfl) d_Tr_init_13 (fun H locs hP hD hS => ?_)
  have hw : ct_Wd g A sv [(h0, .inr (4, [.ref q1, .null, .int 0, .int 0, .int 0, .int 0, .int 0])), (q1, .inl (g.2.2 3, 6, .inr (.inr (.inr (.inr (fun j => if j < 6 then some (q1 + 1 + j) else none)))))), (q1 + 1 + 0, .inl (g.2.2 0, 6, .inl (fun _ => 0))), (q1 + 1 + 1, .inl (g.2.2 0, 6, .inl (fun _ => 0))), (q1 + 1 + 2, .inl (g.2.2 0, 6, .inl (fun _ => 0))), (q1 + 1 + 3, .inl (g.2.2 0, 6, .inl (fun _ => 0))), (q1 + 1 + 4, .inl (g.2.2 0, 6, .inl (fun _ => 0))), (q1 + 1 + 5, .inl (g.2.2 0, 6, .inl (fun _ => 0)))] H locs := ⟨hP, hD, hS⟩
  refine lv_aload_n hx hb d_Tr_init_16 rfl (lv_at hl 0 rfl) ?_
  refine lv_bipush (v := 36) hx hb d_Tr_init_17 (by decide) ?_
  refine ct_newa (atype := .boolean) (ty := .boolean) (t0 := 1) (N := 36) (a0 := (36, .inl (fun _ => 0))) C0 hw wd_63 rfl rfl (fun _ x y => Option.some.inj (x.symm.trans y)) (fun _ => rfl) (by decide) (by decide) (Nat.le_of_ble_eq_true rfl) (Nat.le_of_ble_eq_true rfl) (Nat.le_of_ble_eq_true rfl) d_Tr_init_19 (fun q2 H hw => ?_)
  have hw : ct_Wd g A sv [(h0, .inr (4, [.ref q1, .null, .int 0, .int 0, .int 0, .int 0, .int 0])), (q1, .inl (g.2.2 3, 6, .inr (.inr (.inr (.inr (fun j => if j < 6 then some (q1 + 1 + j) else none)))))), (q1 + 1 + 0, .inl (g.2.2 0, 6, .inl (fun _ => 0))), (q1 + 1 + 1, .inl (g.2.2 0, 6, .inl (fun _ => 0))), (q1 + 1 + 2, .inl (g.2.2 0, 6, .inl (fun _ => 0))), (q1 + 1 + 3, .inl (g.2.2 0, 6, .inl (fun _ => 0))), (q1 + 1 + 4, .inl (g.2.2 0, 6, .inl (fun _ => 0))), (q1 + 1 + 5, .inl (g.2.2 0, 6, .inl (fun _ => 0))), (q2, .inl (g.2.2 1, 36, .inl (fun _ => 0)))] H locs := hw
  refine va_putF (D := g.1) (ci := 4) (v := .ref q2) (ty := .array .boolean) (C := R_Tr) (T := T_Tr) (N := 7) hx hb hts in_Tr ty_Tr tk_Tr nm_Tr hown C0.2.2.2.2.2.1.1 hw.1 hw.2.1 hw.2.2 0 rfl rfl 1 (by decide) (C0.2.2.2.2.1 _ wd_81) (fun _ h => h) rfl hin rfl (by decide +kernel) rfl rfl (Nat.le_of_ble_eq_true rfl) d_Tr_init_21 (fun H locs hP hD hS => ?_)
  have hw : ct_Wd g A sv [(h0, .inr (4, [.ref q1, .ref q2, .int 0, .int 0, .int 0, .int 0, .int 0])), (q1, .inl (g.2.2 3, 6, .inr (.inr (.inr (.inr (fun j => if j < 6 then some (q1 + 1 + j) else none)))))), (q1 + 1 + 0, .inl (g.2.2 0, 6, .inl (fun _ => 0))), (q1 + 1 + 1, .inl (g.2.2 0, 6, .inl (fun _ => 0))), (q1 + 1 + 2, .inl (g.2.2 0, 6, .inl (fun _ => 0))), (q1 + 1 + 3, .inl (g.2.2 0, 6, .inl (fun _ => 0))), (q1 + 1 + 4, .inl (g.2.2 0, 6, .inl (fun _ => 0))), (q1 + 1 + 5, .inl (g.2.2 0, 6, .inl (fun _ => 0))), (q2, .inl (g.2.2 1, 36, .inl (fun _ => 0)))] H locs := ⟨hP, hD, hS⟩
  refine lv_aload_n hx hb d_Tr_init_24 rfl (lv_at hl 0 rfl) ?_
  refine lv_iconst (v := 0) hx hb d_Tr_init_25 (by decide) ?_
  refine va_put (D := g.1) (ci := 4) (v := .int 0) (ty := .int) (C := R_Tr) (T := T_Tr) (N := 7) hx hb hts in_Tr ty_Tr tk_Tr nm_Tr hown C0.2.2.2.2.2.1.1 hw.1 hw.2.1 hw.2.2 0 rfl rfl 2 (by decide) (C0.2.2.2.2.1 _ wd_82) (fun _ h => h) rfl (by decide +kernel) rfl rfl (Nat.le_of_ble_eq_true rfl) d_Tr_init_26 (fun H locs hP hD hS => ?_)
  have hw : ct_Wd g A sv [(h0, .inr (4, [.ref q1, .ref q2, .int 0, .int 0, .int 0, .int 0, .int 0])), (q1, .inl (g.2.2 3, 6, .inr (.inr (.inr (.inr (fun j => if j < 6 then some (q1 + 1 + j) else none)))))), (q1 + 1 + 0, .inl (g.2.2 0, 6, .inl (fun _ => 0))), (q1 + 1 + 1, .inl (g.2.2 0, 6, .inl (fun _ => 0))), (q1 + 1 + 2, .inl (g.2.2 0, 6, .inl (fun _ => 0))), (q1 + 1 + 3, .inl (g.2.2 0, 6, .inl (fun _ => 0))), (q1 + 1 + 4, .inl (g.2.2 0, 6, .inl (fun _ => 0))), (q1 + 1 + 5, .inl (g.2.2 0, 6, .inl (fun _ => 0))), (q2, .inl (g.2.2 1, 36, .inl (fun _ => 0)))] H locs := ⟨hP, hD, hS⟩
  refine lv_aload_n hx hb d_Tr_init_29 rfl (lv_at hl 0 rfl) ?_
  refine lv_bipush (v := 12) hx hb d_Tr_init_30 (by decide) ?_
  refine va_put (D := g.1) (ci := 4) (v := .int 12) (ty := .int) (C := R_Tr) (T := T_Tr) (N := 7) hx hb hts in_Tr ty_Tr tk_Tr nm_Tr hown C0.2.2.2.2.2.1.1 hw.1 hw.2.1 hw.2.2 0 rfl rfl 3 (by decide) (C0.2.2.2.2.1 _ wd_85) (fun _ h => h) rfl (by decide +kernel) rfl rfl (Nat.le_of_ble_eq_true rfl) d_Tr_init_32 (fun H locs hP hD hS => ?_)
  have hw : ct_Wd g A sv [(h0, .inr (4, [.ref q1, .ref q2, .int 0, .int 12, .int 0, .int 0, .int 0])), (q1, .inl (g.2.2 3, 6, .inr (.inr (.inr (.inr (fun j => if j < 6 then some (q1 + 1 + j) else none)))))), (q1 + 1 + 0, .inl (g.2.2 0, 6, .inl (fun _ => 0))), (q1 + 1 + 1, .inl (g.2.2 0, 6, .inl (fun _ => 0))), (q1 + 1 + 2, .inl (g.2.2 0, 6, .inl (fun _ => 0))), (q1 + 1 + 3, .inl (g.2.2 0, 6, .inl (fun _ => 0))), (q1 + 1 + 4, .inl (g.2.2 0, 6, .inl (fun _ => 0))), (q1 + 1 + 5, .inl (g.2.2 0, 6, .inl (fun _ => 0))), (q2, .inl (g.2.2 1, 36, .inl (fun _ => 0)))] H locs := ⟨hP, hD, hS⟩
  refine lv_aload_n hx hb d_Tr_init_35 rfl (lv_at hl 0 rfl) ?_
  refine lv_iconst (v := 0) hx hb d_Tr_init_36 (by decide) ?_
  refine va_put (D := g.1) (ci := 4) (v := .int 0) (ty := .boolean) (C := R_Tr) (T := T_Tr) (N := 7) hx hb hts in_Tr ty_Tr tk_Tr nm_Tr hown C0.2.2.2.2.2.1.1 hw.1 hw.2.1 hw.2.2 0 rfl rfl 4 (by decide) (C0.2.2.2.2.1 _ wd_87) (fun _ h => h) rfl (by decide +kernel) rfl rfl (Nat.le_of_ble_eq_true rfl) d_Tr_init_37 (fun H locs hP hD hS => ?_)
  have hw : ct_Wd g A sv [(h0, .inr (4, [.ref q1, .ref q2, .int 0, .int 12, .int 0, .int 0, .int 0])), (q1, .inl (g.2.2 3, 6, .inr (.inr (.inr (.inr (fun j => if j < 6 then some (q1 + 1 + j) else none)))))), (q1 + 1 + 0, .inl (g.2.2 0, 6, .inl (fun _ => 0))), (q1 + 1 + 1, .inl (g.2.2 0, 6, .inl (fun _ => 0))), (q1 + 1 + 2, .inl (g.2.2 0, 6, .inl (fun _ => 0))), (q1 + 1 + 3, .inl (g.2.2 0, 6, .inl (fun _ => 0))), (q1 + 1 + 4, .inl (g.2.2 0, 6, .inl (fun _ => 0))), (q1 + 1 + 5, .inl (g.2.2 0, 6, .inl (fun _ => 0))), (q2, .inl (g.2.2 1, 36, .inl (fun _ => 0)))] H locs := ⟨hP, hD, hS⟩
  refine lv_aload_n hx hb d_Tr_init_40 rfl (lv_at hl 0 rfl) ?_
  refine lv_iconst (v := 1) hx hb d_Tr_init_41 (by decide) ?_
  refine va_put (D := g.1) (ci := 4) (v := .int 1) (ty := .int) (C := R_Tr) (T := T_Tr) (N := 7) hx hb hts in_Tr ty_Tr tk_Tr nm_Tr hown C0.2.2.2.2.2.1.1 hw.1 hw.2.1 hw.2.2 0 rfl rfl 5 (by decide) (C0.2.2.2.2.1 _ wd_88) (fun _ h => h) rfl (by decide +kernel) rfl rfl (Nat.le_of_ble_eq_true rfl) d_Tr_init_42 (fun H locs hP hD hS => ?_)
  have hw : ct_Wd g A sv [(h0, .inr (4, [.ref q1, .ref q2, .int 0, .int 12, .int 0, .int 1, .int 0])), (q1, .inl (g.2.2 3, 6, .inr (.inr (.inr (.inr (fun j => if j < 6 then some (q1 + 1 + j) else none)))))), (q1 + 1 + 0, .inl (g.2.2 0, 6, .inl (fun _ => 0))), (q1 + 1 + 1, .inl (g.2.2 0, 6, .inl (fun _ => 0))), (q1 + 1 + 2, .inl (g.2.2 0, 6, .inl (fun _ => 0))), (q1 + 1 + 3, .inl (g.2.2 0, 6, .inl (fun _ => 0))), (q1 + 1 + 4, .inl (g.2.2 0, 6, .inl (fun _ => 0))), (q1 + 1 + 5, .inl (g.2.2 0, 6, .inl (fun _ => 0))), (q2, .inl (g.2.2 1, 36, .inl (fun _ => 0)))] H locs := ⟨hP, hD, hS⟩
  refine lv_aload_n hx hb d_Tr_init_45 rfl (lv_at hl 0 rfl) ?_
  refine lv_iconst (v := 0) hx hb d_Tr_init_46 (by decide) ?_
  refine va_put (D := g.1) (ci := 4) (v := .int 0) (ty := .int) (C := R_Tr) (T := T_Tr) (N := 7) hx hb hts in_Tr ty_Tr tk_Tr nm_Tr hown C0.2.2.2.2.2.1.1 hw.1 hw.2.1 hw.2.2 0 rfl rfl 6 (by decide) (C0.2.2.2.2.1 _ wd_91) (fun _ h => h) rfl (by decide +kernel) rfl rfl (Nat.le_of_ble_eq_true rfl) d_Tr_init_47 (fun H locs hP hD hS => ?_)
  have hw : ct_Wd g A sv [(h0, .inr (4, [.ref q1, .ref q2, .int 0, .int 12, .int 0, .int 1, .int 0])), (q1, .inl (g.2.2 3, 6, .inr (.inr (.inr (.inr (fun j => if j < 6 then some (q1 + 1 + j) else none)))))), (q1 + 1 + 0, .inl (g.2.2 0, 6, .inl (fun _ => 0))), (q1 + 1 + 1, .inl (g.2.2 0, 6, .inl (fun _ => 0))), (q1 + 1 + 2, .inl (g.2.2 0, 6, .inl (fun _ => 0))), (q1 + 1 + 3, .inl (g.2.2 0, 6, .inl (fun _ => 0))), (q1 + 1 + 4, .inl (g.2.2 0, 6, .inl (fun _ => 0))), (q1 + 1 + 5, .inl (g.2.2 0, 6, .inl (fun _ => 0))), (q2, .inl (g.2.2 1, 36, .inl (fun _ => 0)))] H locs := ⟨hP, hD, hS⟩
  exact hret hw ⟨q1, q2, rfl⟩ (by decide) (by decide) d_Tr_init_50
