theorem d_Te_init_0 : decode c_Te_init 0 = .ok (.aload_n 0, 1) := by decide +kernel
theorem d_Te_init_1 : decode c_Te_init 1 = .ok (.invokespecial 3, 3) := by decide +kernel
theorem d_Te_init_4 : decode c_Te_init 4 = .ok (.aload_n 0, 1) := by decide +kernel
theorem d_Te_init_5 : decode c_Te_init 5 = .ok (.iconst 2, 1) := by decide +kernel
theorem d_Te_init_6 : decode c_Te_init 6 = .ok (.bipush 72, 2) := by decide +kernel
theorem d_Te_init_8 : decode c_Te_init 8 = .ok (.multianewarray 9 2, 4) := by decide +kernel
theorem d_Te_init_12 : decode c_Te_init 12 = .ok (.putfield 11, 3) := by decide +kernel
theorem d_Te_init_15 : decode c_Te_init 15 = .ok (.aload_n 0, 1) := by decide +kernel
theorem d_Te_init_16 : decode c_Te_init 16 = .ok (.new 16, 3) := by decide +kernel
theorem d_Te_init_19 : decode c_Te_init 19 = .ok (.dup, 1) := by decide +kernel
theorem d_Te_init_20 : decode c_Te_init 20 = .ok (.lconst 1, 1) := by decide +kernel
theorem d_Te_init_21 : decode c_Te_init 21 = .ok (.invokespecial 18, 3) := by decide +kernel
theorem d_Te_init_24 : decode c_Te_init 24 = .ok (.putfield 21, 3) := by decide +kernel
theorem d_Te_init_27 : decode c_Te_init 27 = .ok (.aload_n 0, 1) := by decide +kernel
theorem d_Te_init_28 : decode c_Te_init 28 = .ok (.new 16, 3) := by decide +kernel
theorem d_Te_init_31 : decode c_Te_init 31 = .ok (.dup, 1) := by decide +kernel
theorem d_Te_init_32 : decode c_Te_init 32 = .ok (.lconst 1, 1) := by decide +kernel
theorem d_Te_init_33 : decode c_Te_init 33 = .ok (.invokespecial 18, 3) := by decide +kernel
theorem d_Te_init_36 : decode c_Te_init 36 = .ok (.putfield 25, 3) := by decide +kernel
theorem d_Te_init_39 : decode c_Te_init 39 = .ok (.aload_n 0, 1) := by decide +kernel
theorem d_Te_init_40 : decode c_Te_init 40 = .ok (.new 16, 3) := by decide +kernel
theorem d_Te_init_43 : decode c_Te_init 43 = .ok (.dup, 1) := by decide +kernel
theorem d_Te_init_44 : decode c_Te_init 44 = .ok (.lconst 1, 1) := by decide +kernel
theorem d_Te_init_45 : decode c_Te_init 45 = .ok (.invokespecial 18, 3) := by decide +kernel
theorem d_Te_init_48 : decode c_Te_init 48 = .ok (.putfield 28, 3) := by decide +kernel
theorem d_Te_init_51 : decode c_Te_init 51 = .ok (.aload_n 0, 1) := by decide +kernel
theorem d_Te_init_52 : decode c_Te_init 52 = .ok (.iconst 3, 1) := by decide +kernel
theorem d_Te_init_53 : decode c_Te_init 53 = .ok (.putfield 31, 3) := by decide +kernel
theorem d_Te_init_56 : decode c_Te_init 56 = .ok (.return_, 1) := by decide +kernel
abbrev rm_Te_init : Room := { frames := 2, cells := 6, slots := 155, locals := 34 }
set_option maxHeartbeats 4000000 in
set_option maxRecDepth 100000 in
theorem k_Te_init (l : Launch) (g : Gx) (sz : Nat) (h0 : Nat) : ct_MC l y_Te_init c_Te_init 1 rm_Te_init g [(h0, .inr (3, [.null, .null, .null, .null, .int 0]))] sz [.ref h0] (fun u => ∃ q1 q2 q3 q4 : Nat, u = [(h0, .inr (3, [.ref q1, .ref q2, .ref q3, .ref q4, .int 3])), (q1, .inl (g.2.2 3, 2, .inr (.inr (.inr (.inr (fun j => if j < 2 then some (q1 + 1 + j) else none)))))), (q1 + 1 + 0, .inl (g.2.2 0, 72, .inl (fun _ => 0))), (q1 + 1 + 1, .inl (g.2.2 0, 72, .inl (fun _ => 0))), (q2, .inr (0, [.long 1, .long 1, .int 0])), (q3, .inr (0, [.long 1, .long 1, .int 0])), (q4, .inr (0, [.long 1, .long 1, .int 0]))]) 6 155 := by
  refine ct_startC (by decide +kernel) (Nat.le_of_ble_eq_true rfl) (fun p e sv m args below meth c ls Q A H locs C0 hin hret hl hw => ?_)
  have hx := C0.1
  have hb := C0.2.1
  have hown := C0.2.2.2.1
  have hts := C0.2.2.2.2.1
  have hl : lv_has ls 1 [(0, .ref h0)] := hl
  refine lv_aload_n hx hb d_Te_init_0 rfl (lv_at hl 0 rfl) ?_
  refine ct_objI C0 wd_113 wd_22 wd_23 hl.1 (by decide) (by decide) d_Te_init_1 ?_
  refine lv_aload_n hx hb d_Te_init_4 rfl (lv_at hl 0 rfl) ?_
  refine lv_iconst (v := 2) hx hb d_Te_init_5 (by decide) ?_
  refine lv_bipush (v := 72) hx hb d_Te_init_6 (by decide) ?_
  refine ct_mna (N := 2) (K := 72) C0 hw wd_114 wd_62 (by decide) (by decide) (by decide) (by decide) (Nat.le_of_ble_eq_true rfl) (Nat.le_of_ble_eq_true rfl) (Nat.le_of_ble_eq_true rfl) (Nat.le_of_ble_eq_true rfl) d_Te_init_8 (fun q1 H hw => ?_)
  have hw : ct_Wd g A sv [(h0, .inr (3, [.null, .null, .null, .null, .int 0])), (q1, .inl (g.2.2 3, 2, .inr (.inr (.inr (.inr (fun j => if j < 2 then some (q1 + 1 + j) else none)))))), (q1 + 1 + 0, .inl (g.2.2 0, 72, .inl (fun _ => 0))), (q1 + 1 + 1, .inl (g.2.2 0, 72, .inl (fun _ => 0)))] H locs := hw
  refine va_putF (D := g.1) (ci := 3) (v := .ref q1) (ty := .array (.array .int)) (C := R_Te) (T := T_Te) (N := 5) hx hb hts in_Te ty_Te tk_Te nm_Te hown C0.2.2.2.2.2.1.1 hw.1 hw.2.1 hw.2.2 0 rfl rfl 0 (by decide) (C0.2.2.2.2.1 _ wd_135) (fun _ h => h) rfl hin rfl (by decide +kernel) rfl rfl (Nat.le_of_ble_eq_true rfl) d_Te_init_12 (fun H locs hP hD hS => ?_)
  have hw : ct_Wd g A sv [(h0, .inr (3, [.ref q1, .null, .null, .null, .int 0])), (q1, .inl (g.2.2 3, 2, .inr (.inr (.inr (.inr (fun j => if j < 2 then some (q1 + 1 + j) else none)))))), (q1 + 1 + 0, .inl (g.2.2 0, 72, .inl (fun _ => 0))), (q1 + 1 + 1, .inl (g.2.2 0, 72, .inl (fun _ => 0)))] H locs := ⟨hP, hD, hS⟩
  refine lv_aload_n hx hb d_Te_init_15 rfl (lv_at hl 0 rfl) ?_
  refine ct_newo (ci := 0) (fs := [.long 0, .long 0, .int 0]) ty_Fr C0 hw in_Fr tk_Fr wd_115 wd_116 wd_6 rfl (fun j hj => by rcases (show j = 0 ∨ j = 1 ∨ j = 2 by omega) with rfl | rfl | rfl <;> rfl) (by decide) (by decide) d_Te_init_16 (fun q2 H hw => ?_)
  have hw : ct_Wd g A sv [(h0, .inr (3, [.ref q1, .null, .null, .null, .int 0])), (q1, .inl (g.2.2 3, 2, .inr (.inr (.inr (.inr (fun j => if j < 2 then some (q1 + 1 + j) else none)))))), (q1 + 1 + 0, .inl (g.2.2 0, 72, .inl (fun _ => 0))), (q1 + 1 + 1, .inl (g.2.2 0, 72, .inl (fun _ => 0))), (q2, .inr (0, [.long 0, .long 0, .int 0]))] H locs := hw
  refine lv_dup hx hb d_Te_init_19 rfl ?_
  refine lv_lconst (v := 1) hx hb d_Te_init_20 (by decide) ?_
  refine ct_callC (wc := [(q2, .inr (0, [.long 0, .long 0, .int 0]))]) (wr := [(h0, .inr (3, [.ref q1, .null, .null, .null, .int 0])), (q1, .inl (g.2.2 3, 2, .inr (.inr (.inr (.inr (fun j => if j < 2 then some (q1 + 1 + j) else none)))))), (q1 + 1 + 0, .inl (g.2.2 0, 72, .inl (fun _ => 0))), (q1 + 1 + 1, .inl (g.2.2 0, 72, .inl (fun _ => 0)))]) C0 hw hl.1 wd_117 wd_118 wd_6 wd_119 (fun sz => k_Fr_init l g sz q2 1) [4] [0, 1, 2, 3] (by decide) rfl rfl (by decide) (by decide) (nA := 1) (by decide +kernel) rfl ⟨rfl, rfl⟩ (by decide) (by decide) (As := [.long 1]) (rest := [.ref q2, .ref h0]) rfl (Nat.le_of_ble_eq_true rfl) d_Te_init_21 (fun u H locs hp hw => ?_)
  obtain rfl := hp
  have hw : ct_Wd g A sv [(h0, .inr (3, [.ref q1, .null, .null, .null, .int 0])), (q1, .inl (g.2.2 3, 2, .inr (.inr (.inr (.inr (fun j => if j < 2 then some (q1 + 1 + j) else none)))))), (q1 + 1 + 0, .inl (g.2.2 0, 72, .inl (fun _ => 0))), (q1 + 1 + 1, .inl (g.2.2 0, 72, .inl (fun _ => 0))), (q2, .inr (0, [.long 1, .long 1, .int 0]))] H locs := hw
  refine va_putF (D := g.1) (ci := 3) (v := .ref q2) (ty := .object "ClaimTriangle$Fraction") (C := R_Te) (T := T_Te) (N := 5) hx hb hts in_Te ty_Te tk_Te nm_Te hown C0.2.2.2.2.2.1.1 hw.1 hw.2.1 hw.2.2 0 rfl rfl 1 (by decide) (C0.2.2.2.2.1 _ wd_137) (fun _ h => h) rfl hin rfl (by decide +kernel) rfl rfl (Nat.le_of_ble_eq_true rfl) d_Te_init_24 (fun H locs hP hD hS => ?_)
  have hw : ct_Wd g A sv [(h0, .inr (3, [.ref q1, .ref q2, .null, .null, .int 0])), (q1, .inl (g.2.2 3, 2, .inr (.inr (.inr (.inr (fun j => if j < 2 then some (q1 + 1 + j) else none)))))), (q1 + 1 + 0, .inl (g.2.2 0, 72, .inl (fun _ => 0))), (q1 + 1 + 1, .inl (g.2.2 0, 72, .inl (fun _ => 0))), (q2, .inr (0, [.long 1, .long 1, .int 0]))] H locs := ⟨hP, hD, hS⟩
  refine lv_aload_n hx hb d_Te_init_27 rfl (lv_at hl 0 rfl) ?_
  refine ct_newo (ci := 0) (fs := [.long 0, .long 0, .int 0]) ty_Fr C0 hw in_Fr tk_Fr wd_115 wd_116 wd_6 rfl (fun j hj => by rcases (show j = 0 ∨ j = 1 ∨ j = 2 by omega) with rfl | rfl | rfl <;> rfl) (by decide) (by decide) d_Te_init_28 (fun q3 H hw => ?_)
  have hw : ct_Wd g A sv [(h0, .inr (3, [.ref q1, .ref q2, .null, .null, .int 0])), (q1, .inl (g.2.2 3, 2, .inr (.inr (.inr (.inr (fun j => if j < 2 then some (q1 + 1 + j) else none)))))), (q1 + 1 + 0, .inl (g.2.2 0, 72, .inl (fun _ => 0))), (q1 + 1 + 1, .inl (g.2.2 0, 72, .inl (fun _ => 0))), (q2, .inr (0, [.long 1, .long 1, .int 0])), (q3, .inr (0, [.long 0, .long 0, .int 0]))] H locs := hw
  refine lv_dup hx hb d_Te_init_31 rfl ?_
  refine lv_lconst (v := 1) hx hb d_Te_init_32 (by decide) ?_
  refine ct_callC (wc := [(q3, .inr (0, [.long 0, .long 0, .int 0]))]) (wr := [(h0, .inr (3, [.ref q1, .ref q2, .null, .null, .int 0])), (q1, .inl (g.2.2 3, 2, .inr (.inr (.inr (.inr (fun j => if j < 2 then some (q1 + 1 + j) else none)))))), (q1 + 1 + 0, .inl (g.2.2 0, 72, .inl (fun _ => 0))), (q1 + 1 + 1, .inl (g.2.2 0, 72, .inl (fun _ => 0))), (q2, .inr (0, [.long 1, .long 1, .int 0]))]) C0 hw hl.1 wd_117 wd_118 wd_6 wd_119 (fun sz => k_Fr_init l g sz q3 1) [5] [0, 1, 2, 3, 4] (by decide) rfl rfl (by decide) (by decide) (nA := 1) (by decide +kernel) rfl ⟨rfl, rfl⟩ (by decide) (by decide) (As := [.long 1]) (rest := [.ref q3, .ref h0]) rfl (Nat.le_of_ble_eq_true rfl) d_Te_init_33 (fun u H locs hp hw => ?_)
  obtain rfl := hp
  have hw : ct_Wd g A sv [(h0, .inr (3, [.ref q1, .ref q2, .null, .null, .int 0])), (q1, .inl (g.2.2 3, 2, .inr (.inr (.inr (.inr (fun j => if j < 2 then some (q1 + 1 + j) else none)))))), (q1 + 1 + 0, .inl (g.2.2 0, 72, .inl (fun _ => 0))), (q1 + 1 + 1, .inl (g.2.2 0, 72, .inl (fun _ => 0))), (q2, .inr (0, [.long 1, .long 1, .int 0])), (q3, .inr (0, [.long 1, .long 1, .int 0]))] H locs := hw
  refine va_putF (D := g.1) (ci := 3) (v := .ref q3) (ty := .object "ClaimTriangle$Fraction") (C := R_Te) (T := T_Te) (N := 5) hx hb hts in_Te ty_Te tk_Te nm_Te hown C0.2.2.2.2.2.1.1 hw.1 hw.2.1 hw.2.2 0 rfl rfl 2 (by decide) (C0.2.2.2.2.1 _ wd_138) (fun _ h => h) rfl hin rfl (by decide +kernel) rfl rfl (Nat.le_of_ble_eq_true rfl) d_Te_init_36 (fun H locs hP hD hS => ?_)
  have hw : ct_Wd g A sv [(h0, .inr (3, [.ref q1, .ref q2, .ref q3, .null, .int 0])), (q1, .inl (g.2.2 3, 2, .inr (.inr (.inr (.inr (fun j => if j < 2 then some (q1 + 1 + j) else none)))))), (q1 + 1 + 0, .inl (g.2.2 0, 72, .inl (fun _ => 0))), (q1 + 1 + 1, .inl (g.2.2 0, 72, .inl (fun _ => 0))), (q2, .inr (0, [.long 1, .long 1, .int 0])), (q3, .inr (0, [.long 1, .long 1, .int 0]))] H locs := ⟨hP, hD, hS⟩
  refine lv_aload_n hx hb d_Te_init_39 rfl (lv_at hl 0 rfl) ?_
  refine ct_newo (ci := 0) (fs := [.long 0, .long 0, .int 0]) ty_Fr C0 hw in_Fr tk_Fr wd_115 wd_116 wd_6 rfl (fun j hj => by rcases (show j = 0 ∨ j = 1 ∨ j = 2 by omega) with rfl | rfl | rfl <;> rfl) (by decide) (by decide) d_Te_init_40 (fun q4 H hw => ?_)
  have hw : ct_Wd g A sv [(h0, .inr (3, [.ref q1, .ref q2, .ref q3, .null, .int 0])), (q1, .inl (g.2.2 3, 2, .inr (.inr (.inr (.inr (fun j => if j < 2 then some (q1 + 1 + j) else none)))))), (q1 + 1 + 0, .inl (g.2.2 0, 72, .inl (fun _ => 0))), (q1 + 1 + 1, .inl (g.2.2 0, 72, .inl (fun _ => 0))), (q2, .inr (0, [.long 1, .long 1, .int 0])), (q3, .inr (0, [.long 1, .long 1, .int 0])), (q4, .inr (0, [.long 0, .long 0, .int 0]))] H locs := hw
  refine lv_dup hx hb d_Te_init_43 rfl ?_
  refine lv_lconst (v := 1) hx hb d_Te_init_44 (by decide) ?_
  refine ct_callC (wc := [(q4, .inr (0, [.long 0, .long 0, .int 0]))]) (wr := [(h0, .inr (3, [.ref q1, .ref q2, .ref q3, .null, .int 0])), (q1, .inl (g.2.2 3, 2, .inr (.inr (.inr (.inr (fun j => if j < 2 then some (q1 + 1 + j) else none)))))), (q1 + 1 + 0, .inl (g.2.2 0, 72, .inl (fun _ => 0))), (q1 + 1 + 1, .inl (g.2.2 0, 72, .inl (fun _ => 0))), (q2, .inr (0, [.long 1, .long 1, .int 0])), (q3, .inr (0, [.long 1, .long 1, .int 0]))]) C0 hw hl.1 wd_117 wd_118 wd_6 wd_119 (fun sz => k_Fr_init l g sz q4 1) [6] [0, 1, 2, 3, 4, 5] (by decide) rfl rfl (by decide) (by decide) (nA := 1) (by decide +kernel) rfl ⟨rfl, rfl⟩ (by decide) (by decide) (As := [.long 1]) (rest := [.ref q4, .ref h0]) rfl (Nat.le_of_ble_eq_true rfl) d_Te_init_45 (fun u H locs hp hw => ?_)
  obtain rfl := hp
  have hw : ct_Wd g A sv [(h0, .inr (3, [.ref q1, .ref q2, .ref q3, .null, .int 0])), (q1, .inl (g.2.2 3, 2, .inr (.inr (.inr (.inr (fun j => if j < 2 then some (q1 + 1 + j) else none)))))), (q1 + 1 + 0, .inl (g.2.2 0, 72, .inl (fun _ => 0))), (q1 + 1 + 1, .inl (g.2.2 0, 72, .inl (fun _ => 0))), (q2, .inr (0, [.long 1, .long 1, .int 0])), (q3, .inr (0, [.long 1, .long 1, .int 0])), (q4, .inr (0, [.long 1, .long 1, .int 0]))] H locs := hw
  refine va_putF (D := g.1) (ci := 3) (v := .ref q4) (ty := .object "ClaimTriangle$Fraction") (C := R_Te) (T := T_Te) (N := 5) hx hb hts in_Te ty_Te tk_Te nm_Te hown C0.2.2.2.2.2.1.1 hw.1 hw.2.1 hw.2.2 0 rfl rfl 3 (by decide) (C0.2.2.2.2.1 _ wd_139) (fun _ h => h) rfl hin rfl (by decide +kernel) rfl rfl (Nat.le_of_ble_eq_true rfl) d_Te_init_48 (fun H locs hP hD hS => ?_)
  have hw : ct_Wd g A sv [(h0, .inr (3, [.ref q1, .ref q2, .ref q3, .ref q4, .int 0])), (q1, .inl (g.2.2 3, 2, .inr (.inr (.inr (.inr (fun j => if j < 2 then some (q1 + 1 + j) else none)))))), (q1 + 1 + 0, .inl (g.2.2 0, 72, .inl (fun _ => 0))), (q1 + 1 + 1, .inl (g.2.2 0, 72, .inl (fun _ => 0))), (q2, .inr (0, [.long 1, .long 1, .int 0])), (q3, .inr (0, [.long 1, .long 1, .int 0])), (q4, .inr (0, [.long 1, .long 1, .int 0]))] H locs := ⟨hP, hD, hS⟩
  refine lv_aload_n hx hb d_Te_init_51 rfl (lv_at hl 0 rfl) ?_
  refine lv_iconst (v := 3) hx hb d_Te_init_52 (by decide) ?_
  refine va_put (D := g.1) (ci := 3) (v := .int 3) (ty := .int) (C := R_Te) (T := T_Te) (N := 5) hx hb hts in_Te ty_Te tk_Te nm_Te hown C0.2.2.2.2.2.1.1 hw.1 hw.2.1 hw.2.2 0 rfl rfl 4 (by decide) (C0.2.2.2.2.1 _ wd_142) (fun _ h => h) rfl (by decide +kernel) rfl rfl (Nat.le_of_ble_eq_true rfl) d_Te_init_53 (fun H locs hP hD hS => ?_)
  have hw : ct_Wd g A sv [(h0, .inr (3, [.ref q1, .ref q2, .ref q3, .ref q4, .int 3])), (q1, .inl (g.2.2 3, 2, .inr (.inr (.inr (.inr (fun j => if j < 2 then some (q1 + 1 + j) else none)))))), (q1 + 1 + 0, .inl (g.2.2 0, 72, .inl (fun _ => 0))), (q1 + 1 + 1, .inl (g.2.2 0, 72, .inl (fun _ => 0))), (q2, .inr (0, [.long 1, .long 1, .int 0])), (q3, .inr (0, [.long 1, .long 1, .int 0])), (q4, .inr (0, [.long 1, .long 1, .int 0]))] H locs := ⟨hP, hD, hS⟩
  exact hret hw ⟨q1, q2, q3, q4, rfl⟩ (by decide) (by decide) d_Te_init_56
