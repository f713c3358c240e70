theorem d_Mo_init_0 : decode c_Mo_init 0 = .ok (.aload_n 0, 1) := by decide +kernel
theorem d_Mo_init_1 : decode c_Mo_init 1 = .ok (.invokespecial 1, 3) := by decide +kernel
theorem d_Mo_init_4 : decode c_Mo_init 4 = .ok (.aload_n 0, 1) := by decide +kernel
theorem d_Mo_init_5 : decode c_Mo_init 5 = .ok (.bipush 60, 2) := by decide +kernel
theorem d_Mo_init_7 : decode c_Mo_init 7 = .ok (.newarray .int, 2) := by decide +kernel
theorem d_Mo_init_9 : decode c_Mo_init 9 = .ok (.putfield 7, 3) := by decide +kernel
theorem d_Mo_init_12 : decode c_Mo_init 12 = .ok (.aload_n 0, 1) := by decide +kernel
theorem d_Mo_init_13 : decode c_Mo_init 13 = .ok (.bipush 60, 2) := by decide +kernel
theorem d_Mo_init_15 : decode c_Mo_init 15 = .ok (.newarray .int, 2) := by decide +kernel
theorem d_Mo_init_17 : decode c_Mo_init 17 = .ok (.putfield 13, 3) := by decide +kernel
theorem d_Mo_init_20 : decode c_Mo_init 20 = .ok (.aload_n 0, 1) := by decide +kernel
theorem d_Mo_init_21 : decode c_Mo_init 21 = .ok (.bipush 60, 2) := by decide +kernel
theorem d_Mo_init_23 : decode c_Mo_init 23 = .ok (.newarray .int, 2) := by decide +kernel
theorem d_Mo_init_25 : decode c_Mo_init 25 = .ok (.putfield 16, 3) := by decide +kernel
theorem d_Mo_init_28 : decode c_Mo_init 28 = .ok (.aload_n 0, 1) := by decide +kernel
theorem d_Mo_init_29 : decode c_Mo_init 29 = .ok (.bipush 60, 2) := by decide +kernel
theorem d_Mo_init_31 : decode c_Mo_init 31 = .ok (.newarray .int, 2) := by decide +kernel
theorem d_Mo_init_33 : decode c_Mo_init 33 = .ok (.putfield 19, 3) := by decide +kernel
theorem d_Mo_init_36 : decode c_Mo_init 36 = .ok (.aload_n 0, 1) := by decide +kernel
theorem d_Mo_init_37 : decode c_Mo_init 37 = .ok (.bipush 60, 2) := by decide +kernel
theorem d_Mo_init_39 : decode c_Mo_init 39 = .ok (.newarray .boolean, 2) := by decide +kernel
theorem d_Mo_init_41 : decode c_Mo_init 41 = .ok (.putfield 22, 3) := by decide +kernel
theorem d_Mo_init_44 : decode c_Mo_init 44 = .ok (.aload_n 0, 1) := by decide +kernel
theorem d_Mo_init_45 : decode c_Mo_init 45 = .ok (.bipush 60, 2) := by decide +kernel
theorem d_Mo_init_47 : decode c_Mo_init 47 = .ok (.newarray .boolean, 2) := by decide +kernel
theorem d_Mo_init_49 : decode c_Mo_init 49 = .ok (.putfield 26, 3) := by decide +kernel
theorem d_Mo_init_52 : decode c_Mo_init 52 = .ok (.aload_n 0, 1) := by decide +kernel
theorem d_Mo_init_53 : decode c_Mo_init 53 = .ok (.sipush 144, 3) := by decide +kernel
theorem d_Mo_init_56 : decode c_Mo_init 56 = .ok (.newarray .int, 2) := by decide +kernel
theorem d_Mo_init_58 : decode c_Mo_init 58 = .ok (.putfield 29, 3) := by decide +kernel
theorem d_Mo_init_61 : decode c_Mo_init 61 = .ok (.aload_n 0, 1) := by decide +kernel
theorem d_Mo_init_62 : decode c_Mo_init 62 = .ok (.iconst 3, 1) := by decide +kernel
theorem d_Mo_init_63 : decode c_Mo_init 63 = .ok (.newarray .long, 2) := by decide +kernel
theorem d_Mo_init_65 : decode c_Mo_init 65 = .ok (.putfield 32, 3) := by decide +kernel
theorem d_Mo_init_68 : decode c_Mo_init 68 = .ok (.aload_n 0, 1) := by decide +kernel
theorem d_Mo_init_69 : decode c_Mo_init 69 = .ok (.iconst 3, 1) := by decide +kernel
theorem d_Mo_init_70 : decode c_Mo_init 70 = .ok (.newarray .long, 2) := by decide +kernel
theorem d_Mo_init_72 : decode c_Mo_init 72 = .ok (.putfield 36, 3) := by decide +kernel
theorem d_Mo_init_75 : decode c_Mo_init 75 = .ok (.aload_n 0, 1) := by decide +kernel
theorem d_Mo_init_76 : decode c_Mo_init 76 = .ok (.bipush 12, 2) := by decide +kernel
theorem d_Mo_init_78 : decode c_Mo_init 78 = .ok (.putfield 39, 3) := by decide +kernel
theorem d_Mo_init_81 : decode c_Mo_init 81 = .ok (.aload_n 0, 1) := by decide +kernel
theorem d_Mo_init_82 : decode c_Mo_init 82 = .ok (.iconst 1, 1) := by decide +kernel
theorem d_Mo_init_83 : decode c_Mo_init 83 = .ok (.putfield 43, 3) := by decide +kernel
theorem d_Mo_init_86 : decode c_Mo_init 86 = .ok (.aload_n 0, 1) := by decide +kernel
theorem d_Mo_init_87 : decode c_Mo_init 87 = .ok (.iconst 3, 1) := by decide +kernel
theorem d_Mo_init_88 : decode c_Mo_init 88 = .ok (.putfield 46, 3) := by decide +kernel
theorem d_Mo_init_91 : decode c_Mo_init 91 = .ok (.aload_n 0, 1) := by decide +kernel
theorem d_Mo_init_92 : decode c_Mo_init 92 = .ok (.bipush 36, 2) := by decide +kernel
theorem d_Mo_init_94 : decode c_Mo_init 94 = .ok (.newarray .boolean, 2) := by decide +kernel
theorem d_Mo_init_96 : decode c_Mo_init 96 = .ok (.putfield 49, 3) := by decide +kernel
theorem d_Mo_init_99 : decode c_Mo_init 99 = .ok (.aload_n 0, 1) := by decide +kernel
theorem d_Mo_init_100 : decode c_Mo_init 100 = .ok (.bipush 36, 2) := by decide +kernel
theorem d_Mo_init_102 : decode c_Mo_init 102 = .ok (.newarray .int, 2) := by decide +kernel
theorem d_Mo_init_104 : decode c_Mo_init 104 = .ok (.putfield 52, 3) := by decide +kernel
theorem d_Mo_init_107 : decode c_Mo_init 107 = .ok (.iconst 0, 1) := by decide +kernel
theorem d_Mo_init_108 : decode c_Mo_init 108 = .ok (.istore_n 1, 1) := by decide +kernel
theorem d_Mo_init_109 : decode c_Mo_init 109 = .ok (.iload_n 1, 1) := by decide +kernel
theorem d_Mo_init_110 : decode c_Mo_init 110 = .ok (.iconst 3, 1) := by decide +kernel
theorem d_Mo_init_111 : decode c_Mo_init 111 = .ok (.if_icmp .ge 23, 3) := by decide +kernel
theorem d_Mo_init_114 : decode c_Mo_init 114 = .ok (.aload_n 0, 1) := by decide +kernel
theorem d_Mo_init_115 : decode c_Mo_init 115 = .ok (.getfield 32, 3) := by decide +kernel
theorem d_Mo_init_118 : decode c_Mo_init 118 = .ok (.iload_n 1, 1) := by decide +kernel
theorem d_Mo_init_119 : decode c_Mo_init 119 = .ok (.lconst 1, 1) := by decide +kernel
theorem d_Mo_init_120 : decode c_Mo_init 120 = .ok (.lastore, 1) := by decide +kernel
theorem d_Mo_init_121 : decode c_Mo_init 121 = .ok (.aload_n 0, 1) := by decide +kernel
theorem d_Mo_init_122 : decode c_Mo_init 122 = .ok (.getfield 36, 3) := by decide +kernel
theorem d_Mo_init_125 : decode c_Mo_init 125 = .ok (.iload_n 1, 1) := by decide +kernel
theorem d_Mo_init_126 : decode c_Mo_init 126 = .ok (.lconst 1, 1) := by decide +kernel
theorem d_Mo_init_127 : decode c_Mo_init 127 = .ok (.lastore, 1) := by decide +kernel
theorem d_Mo_init_128 : decode c_Mo_init 128 = .ok (.iinc 1 1, 3) := by decide +kernel
theorem d_Mo_init_131 : decode c_Mo_init 131 = .ok (.goto (-22), 3) := by decide +kernel
theorem d_Mo_init_134 : decode c_Mo_init 134 = .ok (.return_, 1) := by decide +kernel
abbrev rm_Mo_init : Room := { frames := 1, cells := 11, slots := 582, locals := 12 }
set_option maxHeartbeats 4000000 in
set_option maxRecDepth 100000 in
theorem k_Mo_init (l : Launch) (g : Gx) (sz : Nat) (h0 : Nat) : ct_MC l y_Mo_init c_Mo_init 2 rm_Mo_init g [(h0, .inr (6, [.int 0, .int 0, .null, .null, .null, .null, .null, .null, .null, .null, .null, .int 0, .int 0, .int 0, .int 0, .int 0, .int 0, .null, .null, .long 0, .long 0, .int 0, .long 0, .long 0, .long 0, .long 0]))] sz [.ref h0] (fun u => ∃ q1 q2 q3 q4 q5 q6 q7 q8 q9 q10 q11 : Nat, u = [(h0, .inr (6, [.int 0, .int 0, .ref q1, .ref q2, .ref q3, .ref q4, .ref q5, .ref q6, .ref q7, .ref q8, .ref q9, .int 0, .int 12, .int 0, .int 1, .int 0, .int 3, .ref q10, .ref q11, .long 0, .long 0, .int 0, .long 0, .long 0, .long 0, .long 0])), (q1, .inl (g.2.2 0, 60, .inl (fun _ => 0))), (q2, .inl (g.2.2 0, 60, .inl (fun _ => 0))), (q3, .inl (g.2.2 0, 60, .inl (fun _ => 0))), (q4, .inl (g.2.2 0, 60, .inl (fun _ => 0))), (q5, .inl (g.2.2 1, 60, .inl (fun _ => 0))), (q6, .inl (g.2.2 1, 60, .inl (fun _ => 0))), (q7, .inl (g.2.2 0, 144, .inl (fun _ => 0))), (q8, .inl (g.2.2 2, 3, .inr (.inl (vp_updL (vp_updL (vp_updL (fun _ => 0) 0 1) 1 1) 2 1)))), (q9, .inl (g.2.2 2, 3, .inr (.inl (vp_updL (vp_updL (vp_updL (fun _ => 0) 0 1) 1 1) 2 1)))), (q10, .inl (g.2.2 1, 36, .inl (fun _ => 0))), (q11, .inl (g.2.2 0, 36, .inl (fun _ => 0)))]) 11 582 := by
  refine ct_startC (by decide +kernel) (Nat.le_of_ble_eq_true rfl) (fun p e sv m args below meth c ls Q A H locs C0 hin hret hl hw => ?_)
  have hx := C0.1
  have hb := C0.2.1
  have hown := C0.2.2.2.1
  have hts := C0.2.2.2.2.1
  have hl : lv_has ls 2 [(0, .ref h0)] := hl
  refine lv_aload_n hx hb d_Mo_init_0 rfl (lv_at hl 0 rfl) ?_
  refine ct_objI C0 wd_709 wd_22 wd_23 hl.1 (by decide) (by decide) d_Mo_init_1 ?_
  refine lv_aload_n hx hb d_Mo_init_4 rfl (lv_at hl 0 rfl) ?_
  refine lv_bipush (v := 60) hx hb d_Mo_init_5 (by decide) ?_
  refine ct_newa (atype := .int) (ty := .int) (t0 := 0) (N := 60) (a0 := (60, .inl (fun _ => 0))) C0 hw wd_62 rfl rfl (fun _ x y => Option.some.inj (x.symm.trans y)) (fun _ => rfl) (by decide) (by decide) (Nat.le_of_ble_eq_true rfl) (Nat.le_of_ble_eq_true rfl) (Nat.le_of_ble_eq_true rfl) d_Mo_init_7 (fun q1 H hw => ?_)
  have hw : ct_Wd g A sv [(h0, .inr (6, [.int 0, .int 0, .null, .null, .null, .null, .null, .null, .null, .null, .null, .int 0, .int 0, .int 0, .int 0, .int 0, .int 0, .null, .null, .long 0, .long 0, .int 0, .long 0, .long 0, .long 0, .long 0])), (q1, .inl (g.2.2 0, 60, .inl (fun _ => 0)))] H locs := hw
  refine va_put (D := g.1) (ci := 6) (v := .ref q1) (ty := .array .int) (C := R_Mo) (T := T_Mo) (N := 26) hx hb hts in_Mo ty_Mo tk_Mo nm_Mo hown C0.2.2.2.2.2.1.1 hw.1 hw.2.1 hw.2.2 0 rfl rfl 2 (by decide) (C0.2.2.2.2.1 _ wd_712) (fun _ h => h) rfl (by decide +kernel) rfl rfl (Nat.le_of_ble_eq_true rfl) d_Mo_init_9 (fun H locs hP hD hS => ?_)
  have hw : ct_Wd g A sv [(h0, .inr (6, [.int 0, .int 0, .ref q1, .null, .null, .null, .null, .null, .null, .null, .null, .int 0, .int 0, .int 0, .int 0, .int 0, .int 0, .null, .null, .long 0, .long 0, .int 0, .long 0, .long 0, .long 0, .long 0])), (q1, .inl (g.2.2 0, 60, .inl (fun _ => 0)))] H locs := ⟨hP, hD, hS⟩
  refine lv_aload_n hx hb d_Mo_init_12 rfl (lv_at hl 0 rfl) ?_
  refine lv_bipush (v := 60) hx hb d_Mo_init_13 (by decide) ?_
  refine ct_newa (atype := .int) (ty := .int) (t0 := 0) (N := 60) (a0 := (60, .inl (fun _ => 0))) C0 hw wd_62 rfl rfl (fun _ x y => Option.some.inj (x.symm.trans y)) (fun _ => rfl) (by decide) (by decide) (Nat.le_of_ble_eq_true rfl) (Nat.le_of_ble_eq_true rfl) (Nat.le_of_ble_eq_true rfl) d_Mo_init_15 (fun q2 H hw => ?_)
  have hw : ct_Wd g A sv [(h0, .inr (6, [.int 0, .int 0, .ref q1, .null, .null, .null, .null, .null, .null, .null, .null, .int 0, .int 0, .int 0, .int 0, .int 0, .int 0, .null, .null, .long 0, .long 0, .int 0, .long 0, .long 0, .long 0, .long 0])), (q1, .inl (g.2.2 0, 60, .inl (fun _ => 0))), (q2, .inl (g.2.2 0, 60, .inl (fun _ => 0)))] H locs := hw
  refine va_put (D := g.1) (ci := 6) (v := .ref q2) (ty := .array .int) (C := R_Mo) (T := T_Mo) (N := 26) hx hb hts in_Mo ty_Mo tk_Mo nm_Mo hown C0.2.2.2.2.2.1.1 hw.1 hw.2.1 hw.2.2 0 rfl rfl 3 (by decide) (C0.2.2.2.2.1 _ wd_713) (fun _ h => h) rfl (by decide +kernel) rfl rfl (Nat.le_of_ble_eq_true rfl) d_Mo_init_17 (fun H locs hP hD hS => ?_)
  have hw : ct_Wd g A sv [(h0, .inr (6, [.int 0, .int 0, .ref q1, .ref q2, .null, .null, .null, .null, .null, .null, .null, .int 0, .int 0, .int 0, .int 0, .int 0, .int 0, .null, .null, .long 0, .long 0, .int 0, .long 0, .long 0, .long 0, .long 0])), (q1, .inl (g.2.2 0, 60, .inl (fun _ => 0))), (q2, .inl (g.2.2 0, 60, .inl (fun _ => 0)))] H locs := ⟨hP, hD, hS⟩
  refine lv_aload_n hx hb d_Mo_init_20 rfl (lv_at hl 0 rfl) ?_
  refine lv_bipush (v := 60) hx hb d_Mo_init_21 (by decide) ?_
  refine ct_newa (atype := .int) (ty := .int) (t0 := 0) (N := 60) (a0 := (60, .inl (fun _ => 0))) C0 hw wd_62 rfl rfl (fun _ x y => Option.some.inj (x.symm.trans y)) (fun _ => rfl) (by decide) (by decide) (Nat.le_of_ble_eq_true rfl) (Nat.le_of_ble_eq_true rfl) (Nat.le_of_ble_eq_true rfl) d_Mo_init_23 (fun q3 H hw => ?_)
  have hw : ct_Wd g A sv [(h0, .inr (6, [.int 0, .int 0, .ref q1, .ref q2, .null, .null, .null, .null, .null, .null, .null, .int 0, .int 0, .int 0, .int 0, .int 0, .int 0, .null, .null, .long 0, .long 0, .int 0, .long 0, .long 0, .long 0, .long 0])), (q1, .inl (g.2.2 0, 60, .inl (fun _ => 0))), (q2, .inl (g.2.2 0, 60, .inl (fun _ => 0))), (q3, .inl (g.2.2 0, 60, .inl (fun _ => 0)))] H locs := hw
  refine va_put (D := g.1) (ci := 6) (v := .ref q3) (ty := .array .int) (C := R_Mo) (T := T_Mo) (N := 26) hx hb hts in_Mo ty_Mo tk_Mo nm_Mo hown C0.2.2.2.2.2.1.1 hw.1 hw.2.1 hw.2.2 0 rfl rfl 4 (by decide) (C0.2.2.2.2.1 _ wd_714) (fun _ h => h) rfl (by decide +kernel) rfl rfl (Nat.le_of_ble_eq_true rfl) d_Mo_init_25 (fun H locs hP hD hS => ?_)
  have hw : ct_Wd g A sv [(h0, .inr (6, [.int 0, .int 0, .ref q1, .ref q2, .ref q3, .null, .null, .null, .null, .null, .null, .int 0, .int 0, .int 0, .int 0, .int 0, .int 0, .null, .null, .long 0, .long 0, .int 0, .long 0, .long 0, .long 0, .long 0])), (q1, .inl (g.2.2 0, 60, .inl (fun _ => 0))), (q2, .inl (g.2.2 0, 60, .inl (fun _ => 0))), (q3, .inl (g.2.2 0, 60, .inl (fun _ => 0)))] H locs := ⟨hP, hD, hS⟩
  refine lv_aload_n hx hb d_Mo_init_28 rfl (lv_at hl 0 rfl) ?_
  refine lv_bipush (v := 60) hx hb d_Mo_init_29 (by decide) ?_
  refine ct_newa (atype := .int) (ty := .int) (t0 := 0) (N := 60) (a0 := (60, .inl (fun _ => 0))) C0 hw wd_62 rfl rfl (fun _ x y => Option.some.inj (x.symm.trans y)) (fun _ => rfl) (by decide) (by decide) (Nat.le_of_ble_eq_true rfl) (Nat.le_of_ble_eq_true rfl) (Nat.le_of_ble_eq_true rfl) d_Mo_init_31 (fun q4 H hw => ?_)
  have hw : ct_Wd g A sv [(h0, .inr (6, [.int 0, .int 0, .ref q1, .ref q2, .ref q3, .null, .null, .null, .null, .null, .null, .int 0, .int 0, .int 0, .int 0, .int 0, .int 0, .null, .null, .long 0, .long 0, .int 0, .long 0, .long 0, .long 0, .long 0])), (q1, .inl (g.2.2 0, 60, .inl (fun _ => 0))), (q2, .inl (g.2.2 0, 60, .inl (fun _ => 0))), (q3, .inl (g.2.2 0, 60, .inl (fun _ => 0))), (q4, .inl (g.2.2 0, 60, .inl (fun _ => 0)))] H locs := hw
  refine va_put (D := g.1) (ci := 6) (v := .ref q4) (ty := .array .int) (C := R_Mo) (T := T_Mo) (N := 26) hx hb hts in_Mo ty_Mo tk_Mo nm_Mo hown C0.2.2.2.2.2.1.1 hw.1 hw.2.1 hw.2.2 0 rfl rfl 5 (by decide) (C0.2.2.2.2.1 _ wd_715) (fun _ h => h) rfl (by decide +kernel) rfl rfl (Nat.le_of_ble_eq_true rfl) d_Mo_init_33 (fun H locs hP hD hS => ?_)
  have hw : ct_Wd g A sv [(h0, .inr (6, [.int 0, .int 0, .ref q1, .ref q2, .ref q3, .ref q4, .null, .null, .null, .null, .null, .int 0, .int 0, .int 0, .int 0, .int 0, .int 0, .null, .null, .long 0, .long 0, .int 0, .long 0, .long 0, .long 0, .long 0])), (q1, .inl (g.2.2 0, 60, .inl (fun _ => 0))), (q2, .inl (g.2.2 0, 60, .inl (fun _ => 0))), (q3, .inl (g.2.2 0, 60, .inl (fun _ => 0))), (q4, .inl (g.2.2 0, 60, .inl (fun _ => 0)))] H locs := ⟨hP, hD, hS⟩
  refine lv_aload_n hx hb d_Mo_init_36 rfl (lv_at hl 0 rfl) ?_
  refine lv_bipush (v := 60) hx hb d_Mo_init_37 (by decide) ?_
  refine ct_newa (atype := .boolean) (ty := .boolean) (t0 := 1) (N := 60) (a0 := (60, .inl (fun _ => 0))) C0 hw wd_63 rfl rfl (fun _ x y => Option.some.inj (x.symm.trans y)) (fun _ => rfl) (by decide) (by decide) (Nat.le_of_ble_eq_true rfl) (Nat.le_of_ble_eq_true rfl) (Nat.le_of_ble_eq_true rfl) d_Mo_init_39 (fun q5 H hw => ?_)
  have hw : ct_Wd g A sv [(h0, .inr (6, [.int 0, .int 0, .ref q1, .ref q2, .ref q3, .ref q4, .null, .null, .null, .null, .null, .int 0, .int 0, .int 0, .int 0, .int 0, .int 0, .null, .null, .long 0, .long 0, .int 0, .long 0, .long 0, .long 0, .long 0])), (q1, .inl (g.2.2 0, 60, .inl (fun _ => 0))), (q2, .inl (g.2.2 0, 60, .inl (fun _ => 0))), (q3, .inl (g.2.2 0, 60, .inl (fun _ => 0))), (q4, .inl (g.2.2 0, 60, .inl (fun _ => 0))), (q5, .inl (g.2.2 1, 60, .inl (fun _ => 0)))] H locs := hw
  refine va_put (D := g.1) (ci := 6) (v := .ref q5) (ty := .array .boolean) (C := R_Mo) (T := T_Mo) (N := 26) hx hb hts in_Mo ty_Mo tk_Mo nm_Mo hown C0.2.2.2.2.2.1.1 hw.1 hw.2.1 hw.2.2 0 rfl rfl 6 (by decide) (C0.2.2.2.2.1 _ wd_716) (fun _ h => h) rfl (by decide +kernel) rfl rfl (Nat.le_of_ble_eq_true rfl) d_Mo_init_41 (fun H locs hP hD hS => ?_)
  have hw : ct_Wd g A sv [(h0, .inr (6, [.int 0, .int 0, .ref q1, .ref q2, .ref q3, .ref q4, .ref q5, .null, .null, .null, .null, .int 0, .int 0, .int 0, .int 0, .int 0, .int 0, .null, .null, .long 0, .long 0, .int 0, .long 0, .long 0, .long 0, .long 0])), (q1, .inl (g.2.2 0, 60, .inl (fun _ => 0))), (q2, .inl (g.2.2 0, 60, .inl (fun _ => 0))), (q3, .inl (g.2.2 0, 60, .inl (fun _ => 0))), (q4, .inl (g.2.2 0, 60, .inl (fun _ => 0))), (q5, .inl (g.2.2 1, 60, .inl (fun _ => 0)))] H locs := ⟨hP, hD, hS⟩
  refine lv_aload_n hx hb d_Mo_init_44 rfl (lv_at hl 0 rfl) ?_
  refine lv_bipush (v := 60) hx hb d_Mo_init_45 (by decide) ?_
  refine ct_newa (atype := .boolean) (ty := .boolean) (t0 := 1) (N := 60) (a0 := (60, .inl (fun _ => 0))) C0 hw wd_63 rfl rfl (fun _ x y => Option.some.inj (x.symm.trans y)) (fun _ => rfl) (by decide) (by decide) (Nat.le_of_ble_eq_true rfl) (Nat.le_of_ble_eq_true rfl) (Nat.le_of_ble_eq_true rfl) d_Mo_init_47 (fun q6 H hw => ?_)
  have hw : ct_Wd g A sv [(h0, .inr (6, [.int 0, .int 0, .ref q1, .ref q2, .ref q3, .ref q4, .ref q5, .null, .null, .null, .null, .int 0, .int 0, .int 0, .int 0, .int 0, .int 0, .null, .null, .long 0, .long 0, .int 0, .long 0, .long 0, .long 0, .long 0])), (q1, .inl (g.2.2 0, 60, .inl (fun _ => 0))), (q2, .inl (g.2.2 0, 60, .inl (fun _ => 0))), (q3, .inl (g.2.2 0, 60, .inl (fun _ => 0))), (q4, .inl (g.2.2 0, 60, .inl (fun _ => 0))), (q5, .inl (g.2.2 1, 60, .inl (fun _ => 0))), (q6, .inl (g.2.2 1, 60, .inl (fun _ => 0)))] H locs := hw
  refine va_put (D := g.1) (ci := 6) (v := .ref q6) (ty := .array .boolean) (C := R_Mo) (T := T_Mo) (N := 26) hx hb hts in_Mo ty_Mo tk_Mo nm_Mo hown C0.2.2.2.2.2.1.1 hw.1 hw.2.1 hw.2.2 0 rfl rfl 7 (by decide) (C0.2.2.2.2.1 _ wd_717) (fun _ h => h) rfl (by decide +kernel) rfl rfl (Nat.le_of_ble_eq_true rfl) d_Mo_init_49 (fun H locs hP hD hS => ?_)
  have hw : ct_Wd g A sv [(h0, .inr (6, [.int 0, .int 0, .ref q1, .ref q2, .ref q3, .ref q4, .ref q5, .ref q6, .null, .null, .null, .int 0, .int 0, .int 0, .int 0, .int 0, .int 0, .null, .null, .long 0, .long 0, .int 0, .long 0, .long 0, .long 0, .long 0])), (q1, .inl (g.2.2 0, 60, .inl (fun _ => 0))), (q2, .inl (g.2.2 0, 60, .inl (fun _ => 0))), (q3, .inl (g.2.2 0, 60, .inl (fun _ => 0))), (q4, .inl (g.2.2 0, 60, .inl (fun _ => 0))), (q5, .inl (g.2.2 1, 60, .inl (fun _ => 0))), (q6, .inl (g.2.2 1, 60, .inl (fun _ => 0)))] H locs := ⟨hP, hD, hS⟩
  refine lv_aload_n hx hb d_Mo_init_52 rfl (lv_at hl 0 rfl) ?_
  refine lv_sipush (v := 144) hx hb d_Mo_init_53 (by decide) ?_
  refine ct_newa (atype := .int) (ty := .int) (t0 := 0) (N := 144) (a0 := (144, .inl (fun _ => 0))) C0 hw wd_62 rfl rfl (fun _ x y => Option.some.inj (x.symm.trans y)) (fun _ => rfl) (by decide) (by decide) (Nat.le_of_ble_eq_true rfl) (Nat.le_of_ble_eq_true rfl) (Nat.le_of_ble_eq_true rfl) d_Mo_init_56 (fun q7 H hw => ?_)
  have hw : ct_Wd g A sv [(h0, .inr (6, [.int 0, .int 0, .ref q1, .ref q2, .ref q3, .ref q4, .ref q5, .ref q6, .null, .null, .null, .int 0, .int 0, .int 0, .int 0, .int 0, .int 0, .null, .null, .long 0, .long 0, .int 0, .long 0, .long 0, .long 0, .long 0])), (q1, .inl (g.2.2 0, 60, .inl (fun _ => 0))), (q2, .inl (g.2.2 0, 60, .inl (fun _ => 0))), (q3, .inl (g.2.2 0, 60, .inl (fun _ => 0))), (q4, .inl (g.2.2 0, 60, .inl (fun _ => 0))), (q5, .inl (g.2.2 1, 60, .inl (fun _ => 0))), (q6, .inl (g.2.2 1, 60, .inl (fun _ => 0))), (q7, .inl (g.2.2 0, 144, .inl (fun _ => 0)))] H locs := hw
  refine va_put (D := g.1) (ci := 6) (v := .ref q7) (ty := .array .int) (C := R_Mo) (T := T_Mo) (N := 26) hx hb hts in_Mo ty_Mo tk_Mo nm_Mo hown C0.2.2.2.2.2.1.1 hw.1 hw.2.1 hw.2.2 0 rfl rfl 8 (by decide) (C0.2.2.2.2.1 _ wd_718) (fun _ h => h) rfl (by decide +kernel) rfl rfl (Nat.le_of_ble_eq_true rfl) d_Mo_init_58 (fun H locs hP hD hS => ?_)
  have hw : ct_Wd g A sv [(h0, .inr (6, [.int 0, .int 0, .ref q1, .ref q2, .ref q3, .ref q4, .ref q5, .ref q6, .ref q7, .null, .null, .int 0, .int 0, .int 0, .int 0, .int 0, .int 0, .null, .null, .long 0, .long 0, .int 0, .long 0, .long 0, .long 0, .long 0])), (q1, .inl (g.2.2 0, 60, .inl (fun _ => 0))), (q2, .inl (g.2.2 0, 60, .inl (fun _ => 0))), (q3, .inl (g.2.2 0, 60, .inl (fun _ => 0))), (q4, .inl (g.2.2 0, 60, .inl (fun _ => 0))), (q5, .inl (g.2.2 1, 60, .inl (fun _ => 0))), (q6, .inl (g.2.2 1, 60, .inl (fun _ => 0))), (q7, .inl (g.2.2 0, 144, .inl (fun _ => 0)))] H locs := ⟨hP, hD, hS⟩
  refine lv_aload_n hx hb d_Mo_init_61 rfl (lv_at hl 0 rfl) ?_
  refine lv_iconst (v := 3) hx hb d_Mo_init_62 (by decide) ?_
  refine ct_newa (atype := .long) (ty := .long) (t0 := 2) (N := 3) (a0 := (3, .inr (.inl (fun _ => 0)))) C0 hw wd_789 rfl rfl (fun _ x y => Option.some.inj (x.symm.trans y)) (fun _ => rfl) (by decide) (by decide) (Nat.le_of_ble_eq_true rfl) (Nat.le_of_ble_eq_true rfl) (Nat.le_of_ble_eq_true rfl) d_Mo_init_63 (fun q8 H hw => ?_)
  have hw : ct_Wd g A sv [(h0, .inr (6, [.int 0, .int 0, .ref q1, .ref q2, .ref q3, .ref q4, .ref q5, .ref q6, .ref q7, .null, .null, .int 0, .int 0, .int 0, .int 0, .int 0, .int 0, .null, .null, .long 0, .long 0, .int 0, .long 0, .long 0, .long 0, .long 0])), (q1, .inl (g.2.2 0, 60, .inl (fun _ => 0))), (q2, .inl (g.2.2 0, 60, .inl (fun _ => 0))), (q3, .inl (g.2.2 0, 60, .inl (fun _ => 0))), (q4, .inl (g.2.2 0, 60, .inl (fun _ => 0))), (q5, .inl (g.2.2 1, 60, .inl (fun _ => 0))), (q6, .inl (g.2.2 1, 60, .inl (fun _ => 0))), (q7, .inl (g.2.2 0, 144, .inl (fun _ => 0))), (q8, .inl (g.2.2 2, 3, .inr (.inl (fun _ => 0))))] H locs := hw
  refine va_put (D := g.1) (ci := 6) (v := .ref q8) (ty := .array .long) (C := R_Mo) (T := T_Mo) (N := 26) hx hb hts in_Mo ty_Mo tk_Mo nm_Mo hown C0.2.2.2.2.2.1.1 hw.1 hw.2.1 hw.2.2 0 rfl rfl 9 (by decide) (C0.2.2.2.2.1 _ wd_719) (fun _ h => h) rfl (by decide +kernel) rfl rfl (Nat.le_of_ble_eq_true rfl) d_Mo_init_65 (fun H locs hP hD hS => ?_)
  have hw : ct_Wd g A sv [(h0, .inr (6, [.int 0, .int 0, .ref q1, .ref q2, .ref q3, .ref q4, .ref q5, .ref q6, .ref q7, .ref q8, .null, .int 0, .int 0, .int 0, .int 0, .int 0, .int 0, .null, .null, .long 0, .long 0, .int 0, .long 0, .long 0, .long 0, .long 0])), (q1, .inl (g.2.2 0, 60, .inl (fun _ => 0))), (q2, .inl (g.2.2 0, 60, .inl (fun _ => 0))), (q3, .inl (g.2.2 0, 60, .inl (fun _ => 0))), (q4, .inl (g.2.2 0, 60, .inl (fun _ => 0))), (q5, .inl (g.2.2 1, 60, .inl (fun _ => 0))), (q6, .inl (g.2.2 1, 60, .inl (fun _ => 0))), (q7, .inl (g.2.2 0, 144, .inl (fun _ => 0))), (q8, .inl (g.2.2 2, 3, .inr (.inl (fun _ => 0))))] H locs := ⟨hP, hD, hS⟩
  refine lv_aload_n hx hb d_Mo_init_68 rfl (lv_at hl 0 rfl) ?_
  refine lv_iconst (v := 3) hx hb d_Mo_init_69 (by decide) ?_
  refine ct_newa (atype := .long) (ty := .long) (t0 := 2) (N := 3) (a0 := (3, .inr (.inl (fun _ => 0)))) C0 hw wd_789 rfl rfl (fun _ x y => Option.some.inj (x.symm.trans y)) (fun _ => rfl) (by decide) (by decide) (Nat.le_of_ble_eq_true rfl) (Nat.le_of_ble_eq_true rfl) (Nat.le_of_ble_eq_true rfl) d_Mo_init_70 (fun q9 H hw => ?_)
  have hw : ct_Wd g A sv [(h0, .inr (6, [.int 0, .int 0, .ref q1, .ref q2, .ref q3, .ref q4, .ref q5, .ref q6, .ref q7, .ref q8, .null, .int 0, .int 0, .int 0, .int 0, .int 0, .int 0, .null, .null, .long 0, .long 0, .int 0, .long 0, .long 0, .long 0, .long 0])), (q1, .inl (g.2.2 0, 60, .inl (fun _ => 0))), (q2, .inl (g.2.2 0, 60, .inl (fun _ => 0))), (q3, .inl (g.2.2 0, 60, .inl (fun _ => 0))), (q4, .inl (g.2.2 0, 60, .inl (fun _ => 0))), (q5, .inl (g.2.2 1, 60, .inl (fun _ => 0))), (q6, .inl (g.2.2 1, 60, .inl (fun _ => 0))), (q7, .inl (g.2.2 0, 144, .inl (fun _ => 0))), (q8, .inl (g.2.2 2, 3, .inr (.inl (fun _ => 0)))), (q9, .inl (g.2.2 2, 3, .inr (.inl (fun _ => 0))))] H locs := hw
  refine va_put (D := g.1) (ci := 6) (v := .ref q9) (ty := .array .long) (C := R_Mo) (T := T_Mo) (N := 26) hx hb hts in_Mo ty_Mo tk_Mo nm_Mo hown C0.2.2.2.2.2.1.1 hw.1 hw.2.1 hw.2.2 0 rfl rfl 10 (by decide) (C0.2.2.2.2.1 _ wd_720) (fun _ h => h) rfl (by decide +kernel) rfl rfl (Nat.le_of_ble_eq_true rfl) d_Mo_init_72 (fun H locs hP hD hS => ?_)
  have hw : ct_Wd g A sv [(h0, .inr (6, [.int 0, .int 0, .ref q1, .ref q2, .ref q3, .ref q4, .ref q5, .ref q6, .ref q7, .ref q8, .ref q9, .int 0, .int 0, .int 0, .int 0, .int 0, .int 0, .null, .null, .long 0, .long 0, .int 0, .long 0, .long 0, .long 0, .long 0])), (q1, .inl (g.2.2 0, 60, .inl (fun _ => 0))), (q2, .inl (g.2.2 0, 60, .inl (fun _ => 0))), (q3, .inl (g.2.2 0, 60, .inl (fun _ => 0))), (q4, .inl (g.2.2 0, 60, .inl (fun _ => 0))), (q5, .inl (g.2.2 1, 60, .inl (fun _ => 0))), (q6, .inl (g.2.2 1, 60, .inl (fun _ => 0))), (q7, .inl (g.2.2 0, 144, .inl (fun _ => 0))), (q8, .inl (g.2.2 2, 3, .inr (.inl (fun _ => 0)))), (q9, .inl (g.2.2 2, 3, .inr (.inl (fun _ => 0))))] H locs := ⟨hP, hD, hS⟩
  refine lv_aload_n hx hb d_Mo_init_75 rfl (lv_at hl 0 rfl) ?_
  refine lv_bipush (v := 12) hx hb d_Mo_init_76 (by decide) ?_
  refine va_put (D := g.1) (ci := 6) (v := .int 12) (ty := .int) (C := R_Mo) (T := T_Mo) (N := 26) hx hb hts in_Mo ty_Mo tk_Mo nm_Mo hown C0.2.2.2.2.2.1.1 hw.1 hw.2.1 hw.2.2 0 rfl rfl 12 (by decide) (C0.2.2.2.2.1 _ wd_722) (fun _ h => h) rfl (by decide +kernel) rfl rfl (Nat.le_of_ble_eq_true rfl) d_Mo_init_78 (fun H locs hP hD hS => ?_)
  have hw : ct_Wd g A sv [(h0, .inr (6, [.int 0, .int 0, .ref q1, .ref q2, .ref q3, .ref q4, .ref q5, .ref q6, .ref q7, .ref q8, .ref q9, .int 0, .int 12, .int 0, .int 0, .int 0, .int 0, .null, .null, .long 0, .long 0, .int 0, .long 0, .long 0, .long 0, .long 0])), (q1, .inl (g.2.2 0, 60, .inl (fun _ => 0))), (q2, .inl (g.2.2 0, 60, .inl (fun _ => 0))), (q3, .inl (g.2.2 0, 60, .inl (fun _ => 0))), (q4, .inl (g.2.2 0, 60, .inl (fun _ => 0))), (q5, .inl (g.2.2 1, 60, .inl (fun _ => 0))), (q6, .inl (g.2.2 1, 60, .inl (fun _ => 0))), (q7, .inl (g.2.2 0, 144, .inl (fun _ => 0))), (q8, .inl (g.2.2 2, 3, .inr (.inl (fun _ => 0)))), (q9, .inl (g.2.2 2, 3, .inr (.inl (fun _ => 0))))] H locs := ⟨hP, hD, hS⟩
  refine lv_aload_n hx hb d_Mo_init_81 rfl (lv_at hl 0 rfl) ?_
  refine lv_iconst (v := 1) hx hb d_Mo_init_82 (by decide) ?_
  refine va_put (D := g.1) (ci := 6) (v := .int 1) (ty := .int) (C := R_Mo) (T := T_Mo) (N := 26) hx hb hts in_Mo ty_Mo tk_Mo nm_Mo hown C0.2.2.2.2.2.1.1 hw.1 hw.2.1 hw.2.2 0 rfl rfl 14 (by decide) (C0.2.2.2.2.1 _ wd_724) (fun _ h => h) rfl (by decide +kernel) rfl rfl (Nat.le_of_ble_eq_true rfl) d_Mo_init_83 (fun H locs hP hD hS => ?_)
  have hw : ct_Wd g A sv [(h0, .inr (6, [.int 0, .int 0, .ref q1, .ref q2, .ref q3, .ref q4, .ref q5, .ref q6, .ref q7, .ref q8, .ref q9, .int 0, .int 12, .int 0, .int 1, .int 0, .int 0, .null, .null, .long 0, .long 0, .int 0, .long 0, .long 0, .long 0, .long 0])), (q1, .inl (g.2.2 0, 60, .inl (fun _ => 0))), (q2, .inl (g.2.2 0, 60, .inl (fun _ => 0))), (q3, .inl (g.2.2 0, 60, .inl (fun _ => 0))), (q4, .inl (g.2.2 0, 60, .inl (fun _ => 0))), (q5, .inl (g.2.2 1, 60, .inl (fun _ => 0))), (q6, .inl (g.2.2 1, 60, .inl (fun _ => 0))), (q7, .inl (g.2.2 0, 144, .inl (fun _ => 0))), (q8, .inl (g.2.2 2, 3, .inr (.inl (fun _ => 0)))), (q9, .inl (g.2.2 2, 3, .inr (.inl (fun _ => 0))))] H locs := ⟨hP, hD, hS⟩
  refine lv_aload_n hx hb d_Mo_init_86 rfl (lv_at hl 0 rfl) ?_
  refine lv_iconst (v := 3) hx hb d_Mo_init_87 (by decide) ?_
  refine va_put (D := g.1) (ci := 6) (v := .int 3) (ty := .int) (C := R_Mo) (T := T_Mo) (N := 26) hx hb hts in_Mo ty_Mo tk_Mo nm_Mo hown C0.2.2.2.2.2.1.1 hw.1 hw.2.1 hw.2.2 0 rfl rfl 16 (by decide) (C0.2.2.2.2.1 _ wd_726) (fun _ h => h) rfl (by decide +kernel) rfl rfl (Nat.le_of_ble_eq_true rfl) d_Mo_init_88 (fun H locs hP hD hS => ?_)
  have hw : ct_Wd g A sv [(h0, .inr (6, [.int 0, .int 0, .ref q1, .ref q2, .ref q3, .ref q4, .ref q5, .ref q6, .ref q7, .ref q8, .ref q9, .int 0, .int 12, .int 0, .int 1, .int 0, .int 3, .null, .null, .long 0, .long 0, .int 0, .long 0, .long 0, .long 0, .long 0])), (q1, .inl (g.2.2 0, 60, .inl (fun _ => 0))), (q2, .inl (g.2.2 0, 60, .inl (fun _ => 0))), (q3, .inl (g.2.2 0, 60, .inl (fun _ => 0))), (q4, .inl (g.2.2 0, 60, .inl (fun _ => 0))), (q5, .inl (g.2.2 1, 60, .inl (fun _ => 0))), (q6, .inl (g.2.2 1, 60, .inl (fun _ => 0))), (q7, .inl (g.2.2 0, 144, .inl (fun _ => 0))), (q8, .inl (g.2.2 2, 3, .inr (.inl (fun _ => 0)))), (q9, .inl (g.2.2 2, 3, .inr (.inl (fun _ => 0))))] H locs := ⟨hP, hD, hS⟩
  refine lv_aload_n hx hb d_Mo_init_91 rfl (lv_at hl 0 rfl) ?_
  refine lv_bipush (v := 36) hx hb d_Mo_init_92 (by decide) ?_
  refine ct_newa (atype := .boolean) (ty := .boolean) (t0 := 1) (N := 36) (a0 := (36, .inl (fun _ => 0))) C0 hw wd_63 rfl rfl (fun _ x y => Option.some.inj (x.symm.trans y)) (fun _ => rfl) (by decide) (by decide) (Nat.le_of_ble_eq_true rfl) (Nat.le_of_ble_eq_true rfl) (Nat.le_of_ble_eq_true rfl) d_Mo_init_94 (fun q10 H hw => ?_)
  have hw : ct_Wd g A sv [(h0, .inr (6, [.int 0, .int 0, .ref q1, .ref q2, .ref q3, .ref q4, .ref q5, .ref q6, .ref q7, .ref q8, .ref q9, .int 0, .int 12, .int 0, .int 1, .int 0, .int 3, .null, .null, .long 0, .long 0, .int 0, .long 0, .long 0, .long 0, .long 0])), (q1, .inl (g.2.2 0, 60, .inl (fun _ => 0))), (q2, .inl (g.2.2 0, 60, .inl (fun _ => 0))), (q3, .inl (g.2.2 0, 60, .inl (fun _ => 0))), (q4, .inl (g.2.2 0, 60, .inl (fun _ => 0))), (q5, .inl (g.2.2 1, 60, .inl (fun _ => 0))), (q6, .inl (g.2.2 1, 60, .inl (fun _ => 0))), (q7, .inl (g.2.2 0, 144, .inl (fun _ => 0))), (q8, .inl (g.2.2 2, 3, .inr (.inl (fun _ => 0)))), (q9, .inl (g.2.2 2, 3, .inr (.inl (fun _ => 0)))), (q10, .inl (g.2.2 1, 36, .inl (fun _ => 0)))] H locs := hw
  refine va_put (D := g.1) (ci := 6) (v := .ref q10) (ty := .array .boolean) (C := R_Mo) (T := T_Mo) (N := 26) hx hb hts in_Mo ty_Mo tk_Mo nm_Mo hown C0.2.2.2.2.2.1.1 hw.1 hw.2.1 hw.2.2 0 rfl rfl 17 (by decide) (C0.2.2.2.2.1 _ wd_727) (fun _ h => h) rfl (by decide +kernel) rfl rfl (Nat.le_of_ble_eq_true rfl) d_Mo_init_96 (fun H locs hP hD hS => ?_)
  have hw : ct_Wd g A sv [(h0, .inr (6, [.int 0, .int 0, .ref q1, .ref q2, .ref q3, .ref q4, .ref q5, .ref q6, .ref q7, .ref q8, .ref q9, .int 0, .int 12, .int 0, .int 1, .int 0, .int 3, .ref q10, .null, .long 0, .long 0, .int 0, .long 0, .long 0, .long 0, .long 0])), (q1, .inl (g.2.2 0, 60, .inl (fun _ => 0))), (q2, .inl (g.2.2 0, 60, .inl (fun _ => 0))), (q3, .inl (g.2.2 0, 60, .inl (fun _ => 0))), (q4, .inl (g.2.2 0, 60, .inl (fun _ => 0))), (q5, .inl (g.2.2 1, 60, .inl (fun _ => 0))), (q6, .inl (g.2.2 1, 60, .inl (fun _ => 0))), (q7, .inl (g.2.2 0, 144, .inl (fun _ => 0))), (q8, .inl (g.2.2 2, 3, .inr (.inl (fun _ => 0)))), (q9, .inl (g.2.2 2, 3, .inr (.inl (fun _ => 0)))), (q10, .inl (g.2.2 1, 36, .inl (fun _ => 0)))] H locs := ⟨hP, hD, hS⟩
  refine lv_aload_n hx hb d_Mo_init_99 rfl (lv_at hl 0 rfl) ?_
  refine lv_bipush (v := 36) hx hb d_Mo_init_100 (by decide) ?_
  refine ct_newa (atype := .int) (ty := .int) (t0 := 0) (N := 36) (a0 := (36, .inl (fun _ => 0))) C0 hw wd_62 rfl rfl (fun _ x y => Option.some.inj (x.symm.trans y)) (fun _ => rfl) (by decide) (by decide) (Nat.le_of_ble_eq_true rfl) (Nat.le_of_ble_eq_true rfl) (Nat.le_of_ble_eq_true rfl) d_Mo_init_102 (fun q11 H hw => ?_)
  have hw : ct_Wd g A sv [(h0, .inr (6, [.int 0, .int 0, .ref q1, .ref q2, .ref q3, .ref q4, .ref q5, .ref q6, .ref q7, .ref q8, .ref q9, .int 0, .int 12, .int 0, .int 1, .int 0, .int 3, .ref q10, .null, .long 0, .long 0, .int 0, .long 0, .long 0, .long 0, .long 0])), (q1, .inl (g.2.2 0, 60, .inl (fun _ => 0))), (q2, .inl (g.2.2 0, 60, .inl (fun _ => 0))), (q3, .inl (g.2.2 0, 60, .inl (fun _ => 0))), (q4, .inl (g.2.2 0, 60, .inl (fun _ => 0))), (q5, .inl (g.2.2 1, 60, .inl (fun _ => 0))), (q6, .inl (g.2.2 1, 60, .inl (fun _ => 0))), (q7, .inl (g.2.2 0, 144, .inl (fun _ => 0))), (q8, .inl (g.2.2 2, 3, .inr (.inl (fun _ => 0)))), (q9, .inl (g.2.2 2, 3, .inr (.inl (fun _ => 0)))), (q10, .inl (g.2.2 1, 36, .inl (fun _ => 0))), (q11, .inl (g.2.2 0, 36, .inl (fun _ => 0)))] H locs := hw
  refine va_put (D := g.1) (ci := 6) (v := .ref q11) (ty := .array .int) (C := R_Mo) (T := T_Mo) (N := 26) hx hb hts in_Mo ty_Mo tk_Mo nm_Mo hown C0.2.2.2.2.2.1.1 hw.1 hw.2.1 hw.2.2 0 rfl rfl 18 (by decide) (C0.2.2.2.2.1 _ wd_728) (fun _ h => h) rfl (by decide +kernel) rfl rfl (Nat.le_of_ble_eq_true rfl) d_Mo_init_104 (fun H locs hP hD hS => ?_)
  have hw : ct_Wd g A sv [(h0, .inr (6, [.int 0, .int 0, .ref q1, .ref q2, .ref q3, .ref q4, .ref q5, .ref q6, .ref q7, .ref q8, .ref q9, .int 0, .int 12, .int 0, .int 1, .int 0, .int 3, .ref q10, .ref q11, .long 0, .long 0, .int 0, .long 0, .long 0, .long 0, .long 0])), (q1, .inl (g.2.2 0, 60, .inl (fun _ => 0))), (q2, .inl (g.2.2 0, 60, .inl (fun _ => 0))), (q3, .inl (g.2.2 0, 60, .inl (fun _ => 0))), (q4, .inl (g.2.2 0, 60, .inl (fun _ => 0))), (q5, .inl (g.2.2 1, 60, .inl (fun _ => 0))), (q6, .inl (g.2.2 1, 60, .inl (fun _ => 0))), (q7, .inl (g.2.2 0, 144, .inl (fun _ => 0))), (q8, .inl (g.2.2 2, 3, .inr (.inl (fun _ => 0)))), (q9, .inl (g.2.2 2, 3, .inr (.inl (fun _ => 0)))), (q10, .inl (g.2.2 1, 36, .inl (fun _ => 0))), (q11, .inl (g.2.2 0, 36, .inl (fun _ => 0)))] H locs := ⟨hP, hD, hS⟩
  refine lv_iconst (v := 0) hx hb d_Mo_init_107 (by decide) ?_
  refine lv_istore_n (lv' := [(1, .int 0), (0, .ref h0)]) hx hb d_Mo_init_108 rfl hl (by decide) rfl (fun ls hl => ?_)
  refine lv_iload_n hx hb d_Mo_init_109 rfl (lv_at hl 0 rfl) ?_
  refine lv_iconst (v := 3) hx hb d_Mo_init_110 (by decide) ?_
  refine lv_icmp_ge hx hb (tgt := 134) d_Mo_init_111 (by decide) (fun h9 => absurd h9 (by decide)) (fun _ => ?_)
  refine lv_aload_n hx hb d_Mo_init_114 rfl (lv_at hl 1 rfl) ?_
  refine va_get (D := g.1) (ci := 6) (v := .ref q8) (C := R_Mo) (T := T_Mo) (N := 26) hx hb hts in_Mo hown C0.2.2.2.2.2.1.1 hw.1 0 rfl rfl 9 (by decide) (C0.2.2.2.2.1 _ wd_719) (fun _ h => h) rfl d_Mo_init_115 ?_
  refine lv_iload_n hx hb d_Mo_init_118 rfl (lv_at hl 0 rfl) ?_
  refine lv_lconst (v := 1) hx hb d_Mo_init_119 (by decide) ?_
  refine va_last hx hb C0.2.2.2.2.2.1.1 hw.1 hw.2.1 hw.2.2 8 2 rfl rfl (ct_inR_vp (by decide)) d_Mo_init_120 (fun H locs hP hD hS => ?_)
  have hw : ct_Wd g A sv [(h0, .inr (6, [.int 0, .int 0, .ref q1, .ref q2, .ref q3, .ref q4, .ref q5, .ref q6, .ref q7, .ref q8, .ref q9, .int 0, .int 12, .int 0, .int 1, .int 0, .int 3, .ref q10, .ref q11, .long 0, .long 0, .int 0, .long 0, .long 0, .long 0, .long 0])), (q1, .inl (g.2.2 0, 60, .inl (fun _ => 0))), (q2, .inl (g.2.2 0, 60, .inl (fun _ => 0))), (q3, .inl (g.2.2 0, 60, .inl (fun _ => 0))), (q4, .inl (g.2.2 0, 60, .inl (fun _ => 0))), (q5, .inl (g.2.2 1, 60, .inl (fun _ => 0))), (q6, .inl (g.2.2 1, 60, .inl (fun _ => 0))), (q7, .inl (g.2.2 0, 144, .inl (fun _ => 0))), (q8, .inl (g.2.2 2, 3, .inr (.inl (vp_updL (fun _ => 0) 0 1)))), (q9, .inl (g.2.2 2, 3, .inr (.inl (fun _ => 0)))), (q10, .inl (g.2.2 1, 36, .inl (fun _ => 0))), (q11, .inl (g.2.2 0, 36, .inl (fun _ => 0)))] H locs := ⟨hP, hD, hS⟩
  refine lv_aload_n hx hb d_Mo_init_121 rfl (lv_at hl 1 rfl) ?_
  refine va_get (D := g.1) (ci := 6) (v := .ref q9) (C := R_Mo) (T := T_Mo) (N := 26) hx hb hts in_Mo hown C0.2.2.2.2.2.1.1 hw.1 0 rfl rfl 10 (by decide) (C0.2.2.2.2.1 _ wd_720) (fun _ h => h) rfl d_Mo_init_122 ?_
  refine lv_iload_n hx hb d_Mo_init_125 rfl (lv_at hl 0 rfl) ?_
  refine lv_lconst (v := 1) hx hb d_Mo_init_126 (by decide) ?_
  refine va_last hx hb C0.2.2.2.2.2.1.1 hw.1 hw.2.1 hw.2.2 9 2 rfl rfl (ct_inR_vp (by decide)) d_Mo_init_127 (fun H locs hP hD hS => ?_)
  have hw : ct_Wd g A sv [(h0, .inr (6, [.int 0, .int 0, .ref q1, .ref q2, .ref q3, .ref q4, .ref q5, .ref q6, .ref q7, .ref q8, .ref q9, .int 0, .int 12, .int 0, .int 1, .int 0, .int 3, .ref q10, .ref q11, .long 0, .long 0, .int 0, .long 0, .long 0, .long 0, .long 0])), (q1, .inl (g.2.2 0, 60, .inl (fun _ => 0))), (q2, .inl (g.2.2 0, 60, .inl (fun _ => 0))), (q3, .inl (g.2.2 0, 60, .inl (fun _ => 0))), (q4, .inl (g.2.2 0, 60, .inl (fun _ => 0))), (q5, .inl (g.2.2 1, 60, .inl (fun _ => 0))), (q6, .inl (g.2.2 1, 60, .inl (fun _ => 0))), (q7, .inl (g.2.2 0, 144, .inl (fun _ => 0))), (q8, .inl (g.2.2 2, 3, .inr (.inl (vp_updL (fun _ => 0) 0 1)))), (q9, .inl (g.2.2 2, 3, .inr (.inl (vp_updL (fun _ => 0) 0 1)))), (q10, .inl (g.2.2 1, 36, .inl (fun _ => 0))), (q11, .inl (g.2.2 0, 36, .inl (fun _ => 0)))] H locs := ⟨hP, hD, hS⟩
  refine lv_iinc (v := 1) (k := 0) (lv' := [(1, .int 1), (0, .ref h0)]) hx hb d_Mo_init_128 hl rfl (by decide) (by decide) rfl (fun ls hl => ?_)
  refine lv_goto hx hb (tgt := 109) d_Mo_init_131 (by decide) ?_
  refine lv_iload_n hx hb d_Mo_init_109 rfl (lv_at hl 0 rfl) ?_
  refine lv_iconst (v := 3) hx hb d_Mo_init_110 (by decide) ?_
  refine lv_icmp_ge hx hb (tgt := 134) d_Mo_init_111 (by decide) (fun h9 => absurd h9 (by decide)) (fun _ => ?_)
  refine lv_aload_n hx hb d_Mo_init_114 rfl (lv_at hl 1 rfl) ?_
  refine va_get (D := g.1) (ci := 6) (v := .ref q8) (C := R_Mo) (T := T_Mo) (N := 26) hx hb hts in_Mo hown C0.2.2.2.2.2.1.1 hw.1 0 rfl rfl 9 (by decide) (C0.2.2.2.2.1 _ wd_719) (fun _ h => h) rfl d_Mo_init_115 ?_
  refine lv_iload_n hx hb d_Mo_init_118 rfl (lv_at hl 0 rfl) ?_
  refine lv_lconst (v := 1) hx hb d_Mo_init_119 (by decide) ?_
  refine va_last hx hb C0.2.2.2.2.2.1.1 hw.1 hw.2.1 hw.2.2 8 2 rfl rfl (ct_inR_vp (by decide)) d_Mo_init_120 (fun H locs hP hD hS => ?_)
  have hw : ct_Wd g A sv [(h0, .inr (6, [.int 0, .int 0, .ref q1, .ref q2, .ref q3, .ref q4, .ref q5, .ref q6, .ref q7, .ref q8, .ref q9, .int 0, .int 12, .int 0, .int 1, .int 0, .int 3, .ref q10, .ref q11, .long 0, .long 0, .int 0, .long 0, .long 0, .long 0, .long 0])), (q1, .inl (g.2.2 0, 60, .inl (fun _ => 0))), (q2, .inl (g.2.2 0, 60, .inl (fun _ => 0))), (q3, .inl (g.2.2 0, 60, .inl (fun _ => 0))), (q4, .inl (g.2.2 0, 60, .inl (fun _ => 0))), (q5, .inl (g.2.2 1, 60, .inl (fun _ => 0))), (q6, .inl (g.2.2 1, 60, .inl (fun _ => 0))), (q7, .inl (g.2.2 0, 144, .inl (fun _ => 0))), (q8, .inl (g.2.2 2, 3, .inr (.inl (vp_updL (vp_updL (fun _ => 0) 0 1) 1 1)))), (q9, .inl (g.2.2 2, 3, .inr (.inl (vp_updL (fun _ => 0) 0 1)))), (q10, .inl (g.2.2 1, 36, .inl (fun _ => 0))), (q11, .inl (g.2.2 0, 36, .inl (fun _ => 0)))] H locs := ⟨hP, hD, hS⟩
  refine lv_aload_n hx hb d_Mo_init_121 rfl (lv_at hl 1 rfl) ?_
  refine va_get (D := g.1) (ci := 6) (v := .ref q9) (C := R_Mo) (T := T_Mo) (N := 26) hx hb hts in_Mo hown C0.2.2.2.2.2.1.1 hw.1 0 rfl rfl 10 (by decide) (C0.2.2.2.2.1 _ wd_720) (fun _ h => h) rfl d_Mo_init_122 ?_
  refine lv_iload_n hx hb d_Mo_init_125 rfl (lv_at hl 0 rfl) ?_
  refine lv_lconst (v := 1) hx hb d_Mo_init_126 (by decide) ?_
  refine va_last hx hb C0.2.2.2.2.2.1.1 hw.1 hw.2.1 hw.2.2 9 2 rfl rfl (ct_inR_vp (by decide)) d_Mo_init_127 (fun H locs hP hD hS => ?_)
  have hw : ct_Wd g A sv [(h0, .inr (6, [.int 0, .int 0, .ref q1, .ref q2, .ref q3, .ref q4, .ref q5, .ref q6, .ref q7, .ref q8, .ref q9, .int 0, .int 12, .int 0, .int 1, .int 0, .int 3, .ref q10, .ref q11, .long 0, .long 0, .int 0, .long 0, .long 0, .long 0, .long 0])), (q1, .inl (g.2.2 0, 60, .inl (fun _ => 0))), (q2, .inl (g.2.2 0, 60, .inl (fun _ => 0))), (q3, .inl (g.2.2 0, 60, .inl (fun _ => 0))), (q4, .inl (g.2.2 0, 60, .inl (fun _ => 0))), (q5, .inl (g.2.2 1, 60, .inl (fun _ => 0))), (q6, .inl (g.2.2 1, 60, .inl (fun _ => 0))), (q7, .inl (g.2.2 0, 144, .inl (fun _ => 0))), (q8, .inl (g.2.2 2, 3, .inr (.inl (vp_updL (vp_updL (fun _ => 0) 0 1) 1 1)))), (q9, .inl (g.2.2 2, 3, .inr (.inl (vp_updL (vp_updL (fun _ => 0) 0 1) 1 1)))), (q10, .inl (g.2.2 1, 36, .inl (fun _ => 0))), (q11, .inl (g.2.2 0, 36, .inl (fun _ => 0)))] H locs := ⟨hP, hD, hS⟩
  refine lv_iinc (v := 2) (k := 0) (lv' := [(1, .int 2), (0, .ref h0)]) hx hb d_Mo_init_128 hl rfl (by decide) (by decide) rfl (fun ls hl => ?_)
  refine lv_goto hx hb (tgt := 109) d_Mo_init_131 (by decide) ?_
  refine lv_iload_n hx hb d_Mo_init_109 rfl (lv_at hl 0 rfl) ?_
  refine lv_iconst (v := 3) hx hb d_Mo_init_110 (by decide) ?_
  refine lv_icmp_ge hx hb (tgt := 134) d_Mo_init_111 (by decide) (fun h9 => absurd h9 (by decide)) (fun _ => ?_)
  refine lv_aload_n hx hb d_Mo_init_114 rfl (lv_at hl 1 rfl) ?_
  refine va_get (D := g.1) (ci := 6) (v := .ref q8) (C := R_Mo) (T := T_Mo) (N := 26) hx hb hts in_Mo hown C0.2.2.2.2.2.1.1 hw.1 0 rfl rfl 9 (by decide) (C0.2.2.2.2.1 _ wd_719) (fun _ h => h) rfl d_Mo_init_115 ?_
  refine lv_iload_n hx hb d_Mo_init_118 rfl (lv_at hl 0 rfl) ?_
  refine lv_lconst (v := 1) hx hb d_Mo_init_119 (by decide) ?_
  refine va_last hx hb C0.2.2.2.2.2.1.1 hw.1 hw.2.1 hw.2.2 8 2 rfl rfl (ct_inR_vp (by decide)) d_Mo_init_120 (fun H locs hP hD hS => ?_)
  have hw : ct_Wd g A sv [(h0, .inr (6, [.int 0, .int 0, .ref q1, .ref q2, .ref q3, .ref q4, .ref q5, .ref q6, .ref q7, .ref q8, .ref q9, .int 0, .int 12, .int 0, .int 1, .int 0, .int 3, .ref q10, .ref q11, .long 0, .long 0, .int 0, .long 0, .long 0, .long 0, .long 0])), (q1, .inl (g.2.2 0, 60, .inl (fun _ => 0))), (q2, .inl (g.2.2 0, 60, .inl (fun _ => 0))), (q3, .inl (g.2.2 0, 60, .inl (fun _ => 0))), (q4, .inl (g.2.2 0, 60, .inl (fun _ => 0))), (q5, .inl (g.2.2 1, 60, .inl (fun _ => 0))), (q6, .inl (g.2.2 1, 60, .inl (fun _ => 0))), (q7, .inl (g.2.2 0, 144, .inl (fun _ => 0))), (q8, .inl (g.2.2 2, 3, .inr (.inl (vp_updL (vp_updL (vp_updL (fun _ => 0) 0 1) 1 1) 2 1)))), (q9, .inl (g.2.2 2, 3, .inr (.inl (vp_updL (vp_updL (fun _ => 0) 0 1) 1 1)))), (q10, .inl (g.2.2 1, 36, .inl (fun _ => 0))), (q11, .inl (g.2.2 0, 36, .inl (fun _ => 0)))] H locs := ⟨hP, hD, hS⟩
  refine lv_aload_n hx hb d_Mo_init_121 rfl (lv_at hl 1 rfl) ?_
  refine va_get (D := g.1) (ci := 6) (v := .ref q9) (C := R_Mo) (T := T_Mo) (N := 26) hx hb hts in_Mo hown C0.2.2.2.2.2.1.1 hw.1 0 rfl rfl 10 (by decide) (C0.2.2.2.2.1 _ wd_720) (fun _ h => h) rfl d_Mo_init_122 ?_
  refine lv_iload_n hx hb d_Mo_init_125 rfl (lv_at hl 0 rfl) ?_
  refine lv_lconst (v := 1) hx hb d_Mo_init_126 (by decide) ?_
  refine va_last hx hb C0.2.2.2.2.2.1.1 hw.1 hw.2.1 hw.2.2 9 2 rfl rfl (ct_inR_vp (by decide)) d_Mo_init_127 (fun H locs hP hD hS => ?_)
  have hw : ct_Wd g A sv [(h0, .inr (6, [.int 0, .int 0, .ref q1, .ref q2, .ref q3, .ref q4, .ref q5, .ref q6, .ref q7, .ref q8, .ref q9, .int 0, .int 12, .int 0, .int 1, .int 0, .int 3, .ref q10, .ref q11, .long 0, .long 0, .int 0, .long 0, .long 0, .long 0, .long 0])), (q1, .inl (g.2.2 0, 60, .inl (fun _ => 0))), (q2, .inl (g.2.2 0, 60, .inl (fun _ => 0))), (q3, .inl (g.2.2 0, 60, .inl (fun _ => 0))), (q4, .inl (g.2.2 0, 60, .inl (fun _ => 0))), (q5, .inl (g.2.2 1, 60, .inl (fun _ => 0))), (q6, .inl (g.2.2 1, 60, .inl (fun _ => 0))), (q7, .inl (g.2.2 0, 144, .inl (fun _ => 0))), (q8, .inl (g.2.2 2, 3, .inr (.inl (vp_updL (vp_updL (vp_updL (fun _ => 0) 0 1) 1 1) 2 1)))), (q9, .inl (g.2.2 2, 3, .inr (.inl (vp_updL (vp_updL (vp_updL (fun _ => 0) 0 1) 1 1) 2 1)))), (q10, .inl (g.2.2 1, 36, .inl (fun _ => 0))), (q11, .inl (g.2.2 0, 36, .inl (fun _ => 0)))] H locs := ⟨hP, hD, hS⟩
  refine lv_iinc (v := 3) (k := 0) (lv' := [(1, .int 3), (0, .ref h0)]) hx hb d_Mo_init_128 hl rfl (by decide) (by decide) rfl (fun ls hl => ?_)
  refine lv_goto hx hb (tgt := 109) d_Mo_init_131 (by decide) ?_
  refine lv_iload_n hx hb d_Mo_init_109 rfl (lv_at hl 0 rfl) ?_
  refine lv_iconst (v := 3) hx hb d_Mo_init_110 (by decide) ?_
  refine lv_icmp_ge hx hb (tgt := 134) d_Mo_init_111 (by decide) (fun _ => ?_) (fun h9 => absurd (by decide) h9)
  exact hret hw ⟨q1, q2, q3, q4, q5, q6, q7, q8, q9, q10, q11, rfl⟩ (by decide) (by decide) d_Mo_init_134
