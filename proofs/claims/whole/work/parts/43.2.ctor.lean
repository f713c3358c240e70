theorem d_Fr_init_0 : decode c_Fr_init 0 = .ok (.aload_n 0, 1) := by decide +kernel
theorem d_Fr_init_1 : decode c_Fr_init 1 = .ok (.invokespecial 3, 3) := by decide +kernel
theorem d_Fr_init_4 : decode c_Fr_init 4 = .ok (.aload_n 0, 1) := by decide +kernel
theorem d_Fr_init_5 : decode c_Fr_init 5 = .ok (.lconst 1, 1) := by decide +kernel
theorem d_Fr_init_6 : decode c_Fr_init 6 = .ok (.putfield 9, 3) := by decide +kernel
theorem d_Fr_init_9 : decode c_Fr_init 9 = .ok (.aload_n 0, 1) := by decide +kernel
theorem d_Fr_init_10 : decode c_Fr_init 10 = .ok (.iconst 0, 1) := by decide +kernel
theorem d_Fr_init_11 : decode c_Fr_init 11 = .ok (.putfield 15, 3) := by decide +kernel
theorem d_Fr_init_14 : decode c_Fr_init 14 = .ok (.aload_n 0, 1) := by decide +kernel
theorem d_Fr_init_15 : decode c_Fr_init 15 = .ok (.lload_n 1, 1) := by decide +kernel
theorem d_Fr_init_16 : decode c_Fr_init 16 = .ok (.putfield 19, 3) := by decide +kernel
theorem d_Fr_init_19 : decode c_Fr_init 19 = .ok (.return_, 1) := by decide +kernel
abbrev rm_Fr_init : Room := { frames := 1, cells := 0, slots := 0, locals := 12 }
set_option maxHeartbeats 4000000 in
set_option maxRecDepth 100000 in
theorem k_Fr_init (l : Launch) (g : Gx) (sz : Nat) (h0 : Nat) (a1 : Int64) : ct_MC l y_Fr_init c_Fr_init 3 rm_Fr_init g [(h0, .inr (0, [.long 0, .long 0, .int 0]))] sz [.ref h0, .long a1] (fun u => u = [(h0, .inr (0, [.long a1, .long 1, .int 0]))]) 0 0 := by
  refine ct_startC (by decide +kernel) (Nat.le_of_ble_eq_true rfl) (fun p e sv m args below meth c ls Q A H locs C0 hin hret hl hw => ?_)
  have hx := C0.1
  have hb := C0.2.1
  have hown := C0.2.2.2.1
  have hts := C0.2.2.2.2.1
  have hl : lv_has ls 3 [(0, .ref h0), (1, .long a1)] := hl
  refine lv_aload_n hx hb d_Fr_init_0 rfl (lv_at hl 0 rfl) ?_
  refine ct_objI C0 wd_120 wd_22 wd_23 hl.1 (by decide) (by decide) d_Fr_init_1 ?_
  refine lv_aload_n hx hb d_Fr_init_4 rfl (lv_at hl 0 rfl) ?_
  refine lv_lconst (v := 1) hx hb d_Fr_init_5 (by decide) ?_
  refine va_put (D := g.1) (ci := 0) (v := .long 1) (ty := .long) (C := R_Fr) (T := T_Fr) (N := 3) hx hb hts in_Fr ty_Fr tk_Fr nm_Fr hown C0.2.2.2.2.2.1.1 hw.1 hw.2.1 hw.2.2 0 rfl rfl 1 (by decide) (C0.2.2.2.2.1 _ wd_123) (fun _ h => h) rfl (by decide +kernel) rfl rfl (Nat.le_of_ble_eq_true rfl) d_Fr_init_6 (fun H locs hP hD hS => ?_)
  have hw : ct_Wd g A sv [(h0, .inr (0, [.long 0, .long 1, .int 0]))] H locs := ⟨hP, hD, hS⟩
  refine lv_aload_n hx hb d_Fr_init_9 rfl (lv_at hl 0 rfl) ?_
  refine lv_iconst (v := 0) hx hb d_Fr_init_10 (by decide) ?_
  refine va_put (D := g.1) (ci := 0) (v := .int 0) (ty := .int) (C := R_Fr) (T := T_Fr) (N := 3) hx hb hts in_Fr ty_Fr tk_Fr nm_Fr hown C0.2.2.2.2.2.1.1 hw.1 hw.2.1 hw.2.2 0 rfl rfl 2 (by decide) (C0.2.2.2.2.1 _ wd_125) (fun _ h => h) rfl (by decide +kernel) rfl rfl (Nat.le_of_ble_eq_true rfl) d_Fr_init_11 (fun H locs hP hD hS => ?_)
  have hw : ct_Wd g A sv [(h0, .inr (0, [.long 0, .long 1, .int 0]))] H locs := ⟨hP, hD, hS⟩
  refine lv_aload_n hx hb d_Fr_init_14 rfl (lv_at hl 0 rfl) ?_
  refine lv_lload_n hx hb d_Fr_init_15 rfl (lv_at hl 1 rfl) ?_
  refine va_put (D := g.1) (ci := 0) (v := .long a1) (ty := .long) (C := R_Fr) (T := T_Fr) (N := 3) hx hb hts in_Fr ty_Fr tk_Fr nm_Fr hown C0.2.2.2.2.2.1.1 hw.1 hw.2.1 hw.2.2 0 rfl rfl 0 (by decide) (C0.2.2.2.2.1 _ wd_121) (fun _ h => h) rfl (by decide +kernel) rfl rfl (Nat.le_of_ble_eq_true rfl) d_Fr_init_16 (fun H locs hP hD hS => ?_)
  have hw : ct_Wd g A sv [(h0, .inr (0, [.long a1, .long 1, .int 0]))] H locs := ⟨hP, hD, hS⟩
  exact hret hw rfl (by decide) (by decide) d_Fr_init_19
