theorem d_CT_within_0 : decode c_CT_within 0 = .ok (.iload_n 0, 1) := by decide +kernel
theorem d_CT_within_1 : decode c_CT_within 1 = .ok (.iload_n 1, 1) := by decide +kernel
theorem d_CT_within_2 : decode c_CT_within 2 = .ok (.if_icmp .lt 12, 3) := by decide +kernel
theorem d_CT_within_5 : decode c_CT_within 5 = .ok (.iload_n 0, 1) := by decide +kernel
theorem d_CT_within_6 : decode c_CT_within 6 = .ok (.iload_n 2, 1) := by decide +kernel
theorem d_CT_within_7 : decode c_CT_within 7 = .ok (.if_icmp .gt 7, 3) := by decide +kernel
theorem d_CT_within_10 : decode c_CT_within 10 = .ok (.iconst 1, 1) := by decide +kernel
theorem d_CT_within_11 : decode c_CT_within 11 = .ok (.goto 4, 3) := by decide +kernel
theorem d_CT_within_14 : decode c_CT_within 14 = .ok (.iconst 0, 1) := by decide +kernel
theorem d_CT_within_15 : decode c_CT_within 15 = .ok (.ireturn, 1) := by decide +kernel
set_option maxHeartbeats 4000000 in
set_option maxRecDepth 100000 in
theorem s_CT_within (l : Launch) (g : Gx) (ws0 : va_W) (sz : Nat) {a1 : Int32} {a2 : Int32} {a3 : Int32} {res : Int32} (h : fn_CT_within a1 a2 a3 = some res) : ct_MI l y_CT_within c_CT_within 3 (some .boolean) rm_CT_within g ws0 sz [.int a1, .int a2, .int a3] res (fun u => u = ws0) := by
  refine ct_startz (by decide +kernel) (Nat.le_of_ble_eq_true rfl) (fun p e sv m args below meth c ls Q A H locs C0 hret hl hw => ?_)
  have hx := C0.1
  have hb := C0.2.1
  have hown := C0.2.2.2.1
  have hts := C0.2.2.2.2.1
  have hl : lv_has ls 3 [(0, .int a1), (1, .int a2), (2, .int a3)] := hl
  unfold fn_CT_within at h
  refine lv_iload_n hx hb d_CT_within_0 rfl (lv_at hl 0 rfl) ?_
  refine lv_iload_n hx hb d_CT_within_1 rfl (lv_at hl 1 rfl) ?_
  refine lv_icmp_lt hx hb (tgt := 14) d_CT_within_2 (by decide) (fun hc9 => ?_) (fun hc9 => ?_)
  · rw [if_pos hc9] at h
    refine lv_iconst (v := 0) hx hb d_CT_within_14 (by decide) ?_
    have hz : ct_isB 0 = true := by decide
    obtain rfl := Option.some.inj h
    exact hret hz hw rfl d_CT_within_15
  · rw [if_neg hc9] at h
    refine lv_iload_n hx hb d_CT_within_5 rfl (lv_at hl 0 rfl) ?_
    refine lv_iload_n hx hb d_CT_within_6 rfl (lv_at hl 2 rfl) ?_
    refine lv_icmp_gt hx hb (tgt := 14) d_CT_within_7 (by decide) (fun hc9 => ?_) (fun hc9 => ?_)
    · rw [if_pos hc9] at h
      refine lv_iconst (v := 0) hx hb d_CT_within_14 (by decide) ?_
      have hz : ct_isB 0 = true := by decide
      obtain rfl := Option.some.inj h
      exact hret hz hw rfl d_CT_within_15
    · rw [if_neg hc9] at h
      refine lv_iconst (v := 1) hx hb d_CT_within_10 (by decide) ?_
      refine lv_goto hx hb (tgt := 15) d_CT_within_11 (by decide) ?_
      have hz : ct_isB 1 = true := by decide
      obtain rfl := Option.some.inj h
      exact hret hz hw rfl d_CT_within_15

theorem d_CT_check_0 : decode c_CT_check 0 = .ok (.iload_n 0, 1) := by decide +kernel
theorem d_CT_check_1 : decode c_CT_check 1 = .ok (.ifCond .ne 13, 3) := by decide +kernel
theorem d_CT_check_4 : decode c_CT_check 4 = .ok (.new 189, 3) := by decide +kernel
theorem d_CT_check_7 : decode c_CT_check 7 = .ok (.dup, 1) := by decide +kernel
theorem d_CT_check_8 : decode c_CT_check 8 = .ok (.ldc 226, 2) := by decide +kernel
theorem d_CT_check_10 : decode c_CT_check 10 = .ok (.invokespecial 193, 3) := by decide +kernel
theorem d_CT_check_13 : decode c_CT_check 13 = .ok (.athrow, 1) := by decide +kernel
theorem d_CT_check_14 : decode c_CT_check 14 = .ok (.return_, 1) := by decide +kernel
set_option maxHeartbeats 4000000 in
set_option maxRecDepth 100000 in
theorem s_CT_check (l : Launch) (g : Gx) (ws0 : va_W) (sz : Nat) {s : CS} {a1 : Int32} {res : ((Nat × CS) ⊕ CS)} (hR : cs_Rel g ws0 ws0 s) (hl0 : l.stackTraces = false) (h : fn_CT_check s a1 = some res) : ct_XV l y_CT_check c_CT_check 1 none rm_CT_check g ws0 sz [.int a1] res 1 6 := by
  refine ct_startXv hl0 (by decide +kernel) rfl (Nat.le_of_ble_eq_true rfl) (fun p e sv m args below meth c ls Q A H locs C0 hret hout hthr hl hw => ?_)
  have hx := C0.1
  have hb := C0.2.1
  have hown := C0.2.2.2.1
  have hts := C0.2.2.2.2.1
  have hl : lv_has ls 1 [(0, .int a1)] := hl
  unfold fn_CT_check at h
  obtain ⟨ws, hwe⟩ : ∃ z : va_W, z = ws0 := ⟨_, rfl⟩
  rw [← hwe] at hw
  have hR : cs_Rel g ws0 ws s := by rw [hwe]; exact hR
  clear hwe
  refine lv_iload_n hx hb d_CT_check_0 rfl (lv_at hl 0 rfl) ?_
  refine lv_if_ne hx hb (tgt := 14) d_CT_check_1 (by decide) (fun hc9 => ?_) (fun hc9 => ?_)
  · rw [if_pos hc9] at h
    obtain rfl := Option.some.inj h
    exact hret hw ⟨_, rfl, hR⟩ (by decide) (by decide) d_CT_check_14
  · rw [if_neg (fun q => q hc9)] at h
    obtain rfl := Option.some.inj h
    exact hthr (X := "java/lang/IllegalArgumentException") (k := 1) hl.1 hw hR rfl rfl (by decide +kernel) wd_212 wd_11 (by decide +kernel : (226, "there is none such") ∈ ct_str) ok_thr_193.1 ok_thr_193.2 (ok_thr_193_g _) d_CT_check_4 d_CT_check_7 d_CT_check_8 d_CT_check_10 d_CT_check_13 (by decide) (Nat.le_of_ble_eq_true rfl) (by decide) (by decide) (by decide) (by decide)

theorem d_CT_isLine_0 : decode c_CT_isLine 0 = .ok (.iload_n 0, 1) := by decide +kernel
theorem d_CT_isLine_1 : decode c_CT_isLine 1 = .ok (.iconst 0, 1) := by decide +kernel
theorem d_CT_isLine_2 : decode c_CT_isLine 2 = .ok (.iconst 1, 1) := by decide +kernel
theorem d_CT_isLine_3 : decode c_CT_isLine 3 = .ok (.invokestatic 33, 3) := by decide +kernel
theorem d_CT_isLine_6 : decode c_CT_isLine 6 = .ok (.ireturn, 1) := by decide +kernel
set_option maxHeartbeats 4000000 in
set_option maxRecDepth 100000 in
theorem s_CT_isLine (l : Launch) (g : Gx) (ws0 : va_W) (sz : Nat) {a1 : Int32} {res : Int32} (h : fn_CT_isLine a1 = some res) : ct_MI l y_CT_isLine c_CT_isLine 1 (some .boolean) rm_CT_isLine g ws0 sz [.int a1] res (fun u => u = ws0) := by
  refine ct_startz (by decide +kernel) (Nat.le_of_ble_eq_true rfl) (fun p e sv m args below meth c ls Q A H locs C0 hret hl hw => ?_)
  have hx := C0.1
  have hb := C0.2.1
  have hown := C0.2.2.2.1
  have hts := C0.2.2.2.2.1
  have hl : lv_has ls 1 [(0, .int a1)] := hl
  unfold fn_CT_isLine at h
  refine lv_iload_n hx hb d_CT_isLine_0 rfl (lv_at hl 0 rfl) ?_
  refine lv_iconst (v := 0) hx hb d_CT_isLine_1 (by decide) ?_
  refine lv_iconst (v := 1) hx hb d_CT_isLine_2 (by decide) ?_
  obtain ⟨x1, ho, h⟩ := ct_ob_some h
  refine ct_callSi C0 hw hl.1 (ct_giS wd_206 wd_207 wd_1 wd_208) (fun sz => s_CT_within l g ws0 sz ho) (nA := 3) (rm := rm_CT_within) (by decide +kernel) rfl ⟨rfl, rfl⟩ (by decide) (by decide) (As := [.int a1, .int 0, .int 1]) (rest := []) rfl (Nat.le_of_ble_eq_true rfl) d_CT_isLine_3 (fun ws1 H locs hw hp => ?_)
  rw [hp] at hw
  clear hp
  obtain ⟨hz, h⟩ := ct_gd_some h
  obtain rfl := Option.some.inj h
  exact hret hz hw rfl d_CT_isLine_6

theorem d_CT_checkMonths_0 : decode c_CT_checkMonths 0 = .ok (.iload_n 0, 1) := by decide +kernel
theorem d_CT_checkMonths_1 : decode c_CT_checkMonths 1 = .ok (.iconst 0, 1) := by decide +kernel
theorem d_CT_checkMonths_2 : decode c_CT_checkMonths 2 = .ok (.bipush 71, 2) := by decide +kernel
theorem d_CT_checkMonths_4 : decode c_CT_checkMonths 4 = .ok (.invokestatic 33, 3) := by decide +kernel
theorem d_CT_checkMonths_7 : decode c_CT_checkMonths 7 = .ok (.ifCond .eq 17, 3) := by decide +kernel
theorem d_CT_checkMonths_10 : decode c_CT_checkMonths 10 = .ok (.iload_n 1, 1) := by decide +kernel
theorem d_CT_checkMonths_11 : decode c_CT_checkMonths 11 = .ok (.iload_n 0, 1) := by decide +kernel
theorem d_CT_checkMonths_12 : decode c_CT_checkMonths 12 = .ok (.bipush 71, 2) := by decide +kernel
theorem d_CT_checkMonths_14 : decode c_CT_checkMonths 14 = .ok (.invokestatic 33, 3) := by decide +kernel
theorem d_CT_checkMonths_17 : decode c_CT_checkMonths 17 = .ok (.ifCond .eq 7, 3) := by decide +kernel
theorem d_CT_checkMonths_20 : decode c_CT_checkMonths 20 = .ok (.iconst 1, 1) := by decide +kernel
theorem d_CT_checkMonths_21 : decode c_CT_checkMonths 21 = .ok (.goto 4, 3) := by decide +kernel
theorem d_CT_checkMonths_24 : decode c_CT_checkMonths 24 = .ok (.iconst 0, 1) := by decide +kernel
theorem d_CT_checkMonths_25 : decode c_CT_checkMonths 25 = .ok (.invokestatic 37, 3) := by decide +kernel
theorem d_CT_checkMonths_28 : decode c_CT_checkMonths 28 = .ok (.return_, 1) := by decide +kernel
set_option maxHeartbeats 4000000 in
set_option maxRecDepth 100000 in
theorem s_CT_checkMonths (l : Launch) (g : Gx) (ws0 : va_W) (sz : Nat) {s : CS} {a1 : Int32} {a2 : Int32} {res : ((Nat × CS) ⊕ CS)} (hR : cs_Rel g ws0 ws0 s) (hl0 : l.stackTraces = false) (h : fn_CT_checkMonths s a1 a2 = some res) : ct_XV l y_CT_checkMonths c_CT_checkMonths 2 none rm_CT_checkMonths g ws0 sz [.int a1, .int a2] res 1 6 := by
  refine ct_startXv hl0 (by decide +kernel) rfl (Nat.le_of_ble_eq_true rfl) (fun p e sv m args below meth c ls Q A H locs C0 hret hout hthr hl hw => ?_)
  have hx := C0.1
  have hb := C0.2.1
  have hown := C0.2.2.2.1
  have hts := C0.2.2.2.2.1
  have hl : lv_has ls 2 [(0, .int a1), (1, .int a2)] := hl
  have J25 : ∀ (ws : va_W) (H : Heap) (locs : List Loc) (ls : Array Slot) (s : CS) (t0 : Int32), ct_Wd g A sv ws H locs → cs_Rel g ws0 ws s → lv_has ls 2 [] → bk_CT_checkMonths_25 a1 a2 s t0 = some res → W p l e rm_CT_checkMonths sv m args below meth c H locs 0 0 Q (F0 m 25 ls [.int t0]) := by
    intro ws H locs ls s t0 hw hR hl h
    unfold bk_CT_checkMonths_25 at h
    obtain ⟨o1, ho, h⟩ := ct_xb_some h
    refine ct_callSXv C0 hw hl.1 (ct_giS wd_209 wd_210 wd_1 wd_211) (fun sz => s_CT_check l g ws sz hR.rf hl0 ho) (nA := 1) (rm := rm_CT_check) (by decide +kernel) rfl ⟨rfl, rfl⟩ (by decide) (by decide) (As := [.int t0]) (rest := []) rfl (Nat.le_of_ble_eq_true rfl) d_CT_checkMonths_25 (fun E ce q9 ws1 H locs k9 s9 hw ho9 hE hp h1 h2 h3 => ?_) (fun ws1 H locs s9 hw ho9 hp => ?_)
    · subst ho9; obtain rfl := Option.some.inj h; exact hout hw rfl hE (hR.trans hp) h1 h2 h3 (by decide) (by decide)
    subst ho9
    have h := ct_xc_inr h
    have hR := hR.trans hp
    clear hp
    generalize ws1 = ws at hw hR
    generalize s9 = s2 at hR h
    obtain rfl := Option.some.inj h
    exact hret hw ⟨_, rfl, hR⟩ (by decide) (by decide) d_CT_checkMonths_28
  unfold fn_CT_checkMonths at h
  obtain ⟨ws, hwe⟩ : ∃ z : va_W, z = ws0 := ⟨_, rfl⟩
  rw [← hwe] at hw
  have hR : cs_Rel g ws0 ws s := by rw [hwe]; exact hR
  clear hwe
  refine lv_iload_n hx hb d_CT_checkMonths_0 rfl (lv_at hl 0 rfl) ?_
  refine lv_iconst (v := 0) hx hb d_CT_checkMonths_1 (by decide) ?_
  refine lv_bipush (v := 71) hx hb d_CT_checkMonths_2 (by decide) ?_
  obtain ⟨x3, ho, h⟩ := ct_ob_some h
  refine ct_callSi C0 hw hl.1 (ct_giS wd_206 wd_207 wd_1 wd_208) (fun sz => s_CT_within l g ws sz ho) (nA := 3) (rm := rm_CT_within) (by decide +kernel) rfl ⟨rfl, rfl⟩ (by decide) (by decide) (As := [.int a1, .int 0, .int 71]) (rest := []) rfl (Nat.le_of_ble_eq_true rfl) d_CT_checkMonths_4 (fun ws1 H locs hw hp => ?_)
  rw [hp] at hw
  clear hp
  refine lv_if_eq hx hb (tgt := 24) d_CT_checkMonths_7 (by decide) (fun hc9 => ?_) (fun hc9 => ?_)
  · rw [if_pos hc9] at h
    refine lv_iconst (v := 0) hx hb d_CT_checkMonths_24 (by decide) ?_
    exact J25 ws H locs ls s 0 hw hR (lv_sub hl [] rfl) h
  · rw [if_neg hc9] at h
    refine lv_iload_n hx hb d_CT_checkMonths_10 rfl (lv_at hl 1 rfl) ?_
    refine lv_iload_n hx hb d_CT_checkMonths_11 rfl (lv_at hl 0 rfl) ?_
    refine lv_bipush (v := 71) hx hb d_CT_checkMonths_12 (by decide) ?_
    obtain ⟨x4, ho, h⟩ := ct_ob_some h
    refine ct_callSi C0 hw hl.1 (ct_giS wd_206 wd_207 wd_1 wd_208) (fun sz => s_CT_within l g ws sz ho) (nA := 3) (rm := rm_CT_within) (by decide +kernel) rfl ⟨rfl, rfl⟩ (by decide) (by decide) (As := [.int a2, .int a1, .int 71]) (rest := []) rfl (Nat.le_of_ble_eq_true rfl) d_CT_checkMonths_14 (fun ws1 H locs hw hp => ?_)
    rw [hp] at hw
    clear hp
    refine lv_if_eq hx hb (tgt := 24) d_CT_checkMonths_17 (by decide) (fun hc9 => ?_) (fun hc9 => ?_)
    · rw [if_pos hc9] at h
      refine lv_iconst (v := 0) hx hb d_CT_checkMonths_24 (by decide) ?_
      exact J25 ws H locs ls s 0 hw hR (lv_sub hl [] rfl) h
    · rw [if_neg hc9] at h
      refine lv_iconst (v := 1) hx hb d_CT_checkMonths_20 (by decide) ?_
      refine lv_goto hx hb (tgt := 25) d_CT_checkMonths_21 (by decide) ?_
      exact J25 ws H locs ls s 1 hw hR (lv_sub hl [] rfl) h

theorem d_Le_append_0 : decode c_Le_append 0 = .ok (.aload_n 0, 1) := by decide +kernel
theorem d_Le_append_1 : decode c_Le_append 1 = .ok (.getfield 31, 3) := by decide +kernel
theorem d_Le_append_4 : decode c_Le_append 4 = .ok (.istore 6, 2) := by decide +kernel
theorem d_Le_append_6 : decode c_Le_append 6 = .ok (.aload_n 0, 1) := by decide +kernel
theorem d_Le_append_7 : decode c_Le_append 7 = .ok (.getfield 9, 3) := by decide +kernel
theorem d_Le_append_10 : decode c_Le_append 10 = .ok (.iload 6, 2) := by decide +kernel
theorem d_Le_append_12 : decode c_Le_append 12 = .ok (.iload_n 1, 1) := by decide +kernel
theorem d_Le_append_13 : decode c_Le_append 13 = .ok (.iastore, 1) := by decide +kernel
theorem d_Le_append_14 : decode c_Le_append 14 = .ok (.aload_n 0, 1) := by decide +kernel
theorem d_Le_append_15 : decode c_Le_append 15 = .ok (.getfield 15, 3) := by decide +kernel
theorem d_Le_append_18 : decode c_Le_append 18 = .ok (.iload 6, 2) := by decide +kernel
theorem d_Le_append_20 : decode c_Le_append 20 = .ok (.iload_n 2, 1) := by decide +kernel
theorem d_Le_append_21 : decode c_Le_append 21 = .ok (.iastore, 1) := by decide +kernel
theorem d_Le_append_22 : decode c_Le_append 22 = .ok (.aload_n 0, 1) := by decide +kernel
theorem d_Le_append_23 : decode c_Le_append 23 = .ok (.getfield 18, 3) := by decide +kernel
theorem d_Le_append_26 : decode c_Le_append 26 = .ok (.iload 6, 2) := by decide +kernel
theorem d_Le_append_28 : decode c_Le_append 28 = .ok (.iload_n 3, 1) := by decide +kernel
theorem d_Le_append_29 : decode c_Le_append 29 = .ok (.iastore, 1) := by decide +kernel
theorem d_Le_append_30 : decode c_Le_append 30 = .ok (.aload_n 0, 1) := by decide +kernel
theorem d_Le_append_31 : decode c_Le_append 31 = .ok (.getfield 21, 3) := by decide +kernel
theorem d_Le_append_34 : decode c_Le_append 34 = .ok (.iload 6, 2) := by decide +kernel
theorem d_Le_append_36 : decode c_Le_append 36 = .ok (.iload 4, 2) := by decide +kernel
theorem d_Le_append_38 : decode c_Le_append 38 = .ok (.iastore, 1) := by decide +kernel
theorem d_Le_append_39 : decode c_Le_append 39 = .ok (.aload_n 0, 1) := by decide +kernel
theorem d_Le_append_40 : decode c_Le_append 40 = .ok (.getfield 24, 3) := by decide +kernel
theorem d_Le_append_43 : decode c_Le_append 43 = .ok (.iload 6, 2) := by decide +kernel
theorem d_Le_append_45 : decode c_Le_append 45 = .ok (.iload 5, 2) := by decide +kernel
theorem d_Le_append_47 : decode c_Le_append 47 = .ok (.bastore, 1) := by decide +kernel
theorem d_Le_append_48 : decode c_Le_append 48 = .ok (.aload_n 0, 1) := by decide +kernel
theorem d_Le_append_49 : decode c_Le_append 49 = .ok (.getfield 28, 3) := by decide +kernel
theorem d_Le_append_52 : decode c_Le_append 52 = .ok (.iload 6, 2) := by decide +kernel
theorem d_Le_append_54 : decode c_Le_append 54 = .ok (.iconst 1, 1) := by decide +kernel
theorem d_Le_append_55 : decode c_Le_append 55 = .ok (.bastore, 1) := by decide +kernel
theorem d_Le_append_56 : decode c_Le_append 56 = .ok (.aload_n 0, 1) := by decide +kernel
theorem d_Le_append_57 : decode c_Le_append 57 = .ok (.dup, 1) := by decide +kernel
theorem d_Le_append_58 : decode c_Le_append 58 = .ok (.getfield 31, 3) := by decide +kernel
theorem d_Le_append_61 : decode c_Le_append 61 = .ok (.iconst 1, 1) := by decide +kernel
theorem d_Le_append_62 : decode c_Le_append 62 = .ok (.iadd, 1) := by decide +kernel
theorem d_Le_append_63 : decode c_Le_append 63 = .ok (.putfield 31, 3) := by decide +kernel
theorem d_Le_append_66 : decode c_Le_append 66 = .ok (.iload 6, 2) := by decide +kernel
theorem d_Le_append_68 : decode c_Le_append 68 = .ok (.ireturn, 1) := by decide +kernel
set_option maxHeartbeats 4000000 in
set_option maxRecDepth 100000 in
theorem s_Le_append (l : Launch) (g : Gx) (ws0 : va_W) (sz : Nat) {s : CS} {a1 : Int32} {a2 : Int32} {a3 : Int32} {a4 : Int32} {a5 : Int32} {res : (Int32 × CS)} (hR : cs_Rel g ws0 ws0 s) (h : fn_Le_append s a1 a2 a3 a4 a5 = some res) : ct_MI l y_Le_append c_Le_append 7 (some .int) rm_Le_append g ws0 sz [.ref (g.2.1 1), .int a1, .int a2, .int a3, .int a4, .int a5] res.1 (fun u => cs_Rel g ws0 u res.2) := by
  refine ct_starti (by decide +kernel) (Nat.le_of_ble_eq_true rfl) (fun p e sv m args below meth c ls Q A H locs C0 hret hl hw => ?_)
  have hx := C0.1
  have hb := C0.2.1
  have hown := C0.2.2.2.1
  have hts := C0.2.2.2.2.1
  have hl : lv_has ls 7 [(0, .ref (g.2.1 1)), (1, .int a1), (2, .int a2), (3, .int a3), (4, .int a4), (5, .int a5)] := hl
  unfold fn_Le_append at h
  obtain ⟨ws, hwe⟩ : ∃ z : va_W, z = ws0 := ⟨_, rfl⟩
  rw [← hwe] at hw
  have hR : cs_Rel g ws0 ws s := by rw [hwe]; exact hR
  clear hwe
  refine lv_aload_n hx hb d_Le_append_0 rfl (lv_at hl 0 rfl) ?_
  refine gf_Le_31 C0 hw hR d_Le_append_1 ?_
  refine lv_topi (fun x1 e9 => ?_)
  have h := ct_nm_at h e9
  clear e9
  refine lv_istore (lv' := [(6, .int x1), (0, .ref (g.2.1 1)), (1, .int a1), (2, .int a2), (3, .int a3), (4, .int a4), (5, .int a5)]) hx hb d_Le_append_4 hl (by decide) rfl (fun ls hl => ?_)
  refine lv_aload_n hx hb d_Le_append_6 rfl (lv_at hl 1 rfl) ?_
  refine gf_Le_9 C0 hw hR d_Le_append_7 ?_
  refine lv_iload hx hb d_Le_append_10 (lv_at hl 0 rfl) ?_
  refine lv_iload_n hx hb d_Le_append_12 rfl (lv_at hl 2 rfl) ?_
  obtain ⟨hg13, h⟩ := ct_gd_some h
  refine ct_stA (k := 0) C0 hw hR (by decide) (ct_inR_vp hg13) d_Le_append_13 (fun ws H locs hw hR => ?_)
  obtain ⟨s2, es9, h⟩ := ct_nm_ex h
  rw [← es9] at hR
  clear es9
  refine lv_aload_n hx hb d_Le_append_14 rfl (lv_at hl 1 rfl) ?_
  refine gf_Le_15 C0 hw hR d_Le_append_15 ?_
  refine lv_iload hx hb d_Le_append_18 (lv_at hl 0 rfl) ?_
  refine lv_iload_n hx hb d_Le_append_20 rfl (lv_at hl 3 rfl) ?_
  obtain ⟨hg21, h⟩ := ct_gd_some h
  refine ct_stA (k := 1) C0 hw hR (by decide) (ct_inR_vp hg21) d_Le_append_21 (fun ws H locs hw hR => ?_)
  obtain ⟨s3, es9, h⟩ := ct_nm_ex h
  rw [← es9] at hR
  clear es9
  refine lv_aload_n hx hb d_Le_append_22 rfl (lv_at hl 1 rfl) ?_
  refine gf_Le_18 C0 hw hR d_Le_append_23 ?_
  refine lv_iload hx hb d_Le_append_26 (lv_at hl 0 rfl) ?_
  refine lv_iload_n hx hb d_Le_append_28 rfl (lv_at hl 4 rfl) ?_
  obtain ⟨hg29, h⟩ := ct_gd_some h
  refine ct_stA (k := 2) C0 hw hR (by decide) (ct_inR_vp hg29) d_Le_append_29 (fun ws H locs hw hR => ?_)
  obtain ⟨s4, es9, h⟩ := ct_nm_ex h
  rw [← es9] at hR
  clear es9
  refine lv_aload_n hx hb d_Le_append_30 rfl (lv_at hl 1 rfl) ?_
  refine gf_Le_21 C0 hw hR d_Le_append_31 ?_
  refine lv_iload hx hb d_Le_append_34 (lv_at hl 0 rfl) ?_
  refine lv_iload hx hb d_Le_append_36 (lv_at hl 5 rfl) ?_
  obtain ⟨hg38, h⟩ := ct_gd_some h
  refine ct_stA (k := 3) C0 hw hR (by decide) (ct_inR_vp hg38) d_Le_append_38 (fun ws H locs hw hR => ?_)
  obtain ⟨s5, es9, h⟩ := ct_nm_ex h
  rw [← es9] at hR
  clear es9
  refine lv_aload_n hx hb d_Le_append_39 rfl (lv_at hl 1 rfl) ?_
  refine gf_Le_24 C0 hw hR d_Le_append_40 ?_
  refine lv_iload hx hb d_Le_append_43 (lv_at hl 0 rfl) ?_
  refine lv_iload hx hb d_Le_append_45 (lv_at hl 6 rfl) ?_
  obtain ⟨hg47, h⟩ := ct_gd_some h
  refine ct_stZ (k := 4) C0 hw hR (by decide) (by decide) (ct_inR_vp hg47) d_Le_append_47 (fun ws H locs hw hR => ?_)
  obtain ⟨s6, es9, h⟩ := ct_nm_ex h
  rw [← es9] at hR
  clear es9
  refine lv_aload_n hx hb d_Le_append_48 rfl (lv_at hl 1 rfl) ?_
  refine gf_Le_28 C0 hw hR d_Le_append_49 ?_
  refine lv_iload hx hb d_Le_append_52 (lv_at hl 0 rfl) ?_
  refine lv_iconst (v := 1) hx hb d_Le_append_54 (by decide) ?_
  obtain ⟨hg55, h⟩ := ct_gd_some h
  refine ct_stZ (k := 5) C0 hw hR (by decide) (by decide) (ct_inR_vp hg55) d_Le_append_55 (fun ws H locs hw hR => ?_)
  obtain ⟨s7, es9, h⟩ := ct_nm_ex h
  rw [← es9] at hR
  clear es9
  refine lv_aload_n hx hb d_Le_append_56 rfl (lv_at hl 1 rfl) ?_
  refine lv_dup hx hb d_Le_append_57 rfl ?_
  refine gf_Le_31 C0 hw hR d_Le_append_58 ?_
  refine lv_iconst (v := 1) hx hb d_Le_append_61 (by decide) ?_
  refine lv_iadd hx hb d_Le_append_62 ?_
  refine pf_Le_31 C0 hw hR d_Le_append_63 (fun ws H locs hw hR => ?_)
  obtain ⟨s8, es9, h⟩ := ct_nm_ex h
  rw [← es9] at hR
  clear es9
  refine lv_iload hx hb d_Le_append_66 (lv_at hl 0 rfl) ?_
  obtain rfl := Option.some.inj h
  exact hret hw hR d_Le_append_68

theorem d_Tr_clear_0 : decode c_Tr_clear 0 = .ok (.iconst 0, 1) := by decide +kernel
theorem d_Tr_clear_1 : decode c_Tr_clear 1 = .ok (.istore_n 1, 1) := by decide +kernel
theorem d_Tr_clear_2 : decode c_Tr_clear 2 = .ok (.iload_n 1, 1) := by decide +kernel
theorem d_Tr_clear_3 : decode c_Tr_clear 3 = .ok (.bipush 6, 2) := by decide +kernel
theorem d_Tr_clear_5 : decode c_Tr_clear 5 = .ok (.if_icmp .ge 32, 3) := by decide +kernel
theorem d_Tr_clear_8 : decode c_Tr_clear 8 = .ok (.iconst 0, 1) := by decide +kernel
theorem d_Tr_clear_9 : decode c_Tr_clear 9 = .ok (.istore_n 2, 1) := by decide +kernel
theorem d_Tr_clear_10 : decode c_Tr_clear 10 = .ok (.iload_n 2, 1) := by decide +kernel
theorem d_Tr_clear_11 : decode c_Tr_clear 11 = .ok (.bipush 6, 2) := by decide +kernel
theorem d_Tr_clear_13 : decode c_Tr_clear 13 = .ok (.if_icmp .ge 18, 3) := by decide +kernel
theorem d_Tr_clear_16 : decode c_Tr_clear 16 = .ok (.aload_n 0, 1) := by decide +kernel
theorem d_Tr_clear_17 : decode c_Tr_clear 17 = .ok (.getfield 11, 3) := by decide +kernel
theorem d_Tr_clear_20 : decode c_Tr_clear 20 = .ok (.iload_n 1, 1) := by decide +kernel
theorem d_Tr_clear_21 : decode c_Tr_clear 21 = .ok (.aaload, 1) := by decide +kernel
theorem d_Tr_clear_22 : decode c_Tr_clear 22 = .ok (.iload_n 2, 1) := by decide +kernel
theorem d_Tr_clear_23 : decode c_Tr_clear 23 = .ok (.iconst 0, 1) := by decide +kernel
theorem d_Tr_clear_24 : decode c_Tr_clear 24 = .ok (.iastore, 1) := by decide +kernel
theorem d_Tr_clear_25 : decode c_Tr_clear 25 = .ok (.iinc 2 1, 3) := by decide +kernel
theorem d_Tr_clear_28 : decode c_Tr_clear 28 = .ok (.goto (-18), 3) := by decide +kernel
theorem d_Tr_clear_31 : decode c_Tr_clear 31 = .ok (.iinc 1 1, 3) := by decide +kernel
theorem d_Tr_clear_34 : decode c_Tr_clear 34 = .ok (.goto (-32), 3) := by decide +kernel
theorem d_Tr_clear_37 : decode c_Tr_clear 37 = .ok (.return_, 1) := by decide +kernel
set_option maxHeartbeats 4000000 in
set_option maxRecDepth 100000 in
theorem s_Tr_clear (l : Launch) (g : Gx) (ws0 : va_W) (sz : Nat) {s : CS} {res : CS} (hR : cs_Rel g ws0 ws0 s) (h : fn_Tr_clear s = some res) : ct_MV l y_Tr_clear c_Tr_clear 3 none rm_Tr_clear g ws0 sz [.ref (g.2.1 2)]  (fun u => cs_Rel g ws0 u res) := by
  refine ct_startv (by decide +kernel) (Nat.le_of_ble_eq_true rfl) (fun p e sv m args below meth c ls Q A H locs C0 hret hl hw => ?_)
  have hx := C0.1
  have hb := C0.2.1
  have hown := C0.2.2.2.1
  have hts := C0.2.2.2.2.1
  have hl : lv_has ls 3 [(0, .ref (g.2.1 2))] := hl
  have L2 : ∀ (n2 : Nat) (ws : va_W) (H : Heap) (locs : List Loc) (ls : Array Slot) (s : CS) (v1 : Int32), ct_Wd g A sv ws H locs → cs_Rel g ws0 ws s → lv_has ls 3 [(0, .ref (g.2.1 2)), (1, .int v1)] → bk_Tr_clear_2 n2 s v1 = some res → W p l e rm_Tr_clear sv m args below meth c H locs 0 0 Q (F0 m 2 ls []) := by
    intro n2
    induction n2 with
    | zero =>
      intro ws H locs ls s v1 hw hR hl h
      exact absurd h (by simp [bk_Tr_clear_2])
    | succ n2 ih2 =>
      have L10 : ∀ (n10 : Nat) (ws : va_W) (H : Heap) (locs : List Loc) (ls : Array Slot) (s : CS) (v1 : Int32) (v2 : Int32), ct_Wd g A sv ws H locs → cs_Rel g ws0 ws s → lv_has ls 3 [(0, .ref (g.2.1 2)), (1, .int v1), (2, .int v2)] → bk_Tr_clear_10 (bk_Tr_clear_2 n2) n10 s v1 v2 = some res → W p l e rm_Tr_clear sv m args below meth c H locs 0 0 Q (F0 m 10 ls []) := by
        intro n10
        induction n10 with
        | zero =>
          intro ws H locs ls s v1 v2 hw hR hl h
          exact absurd h (by simp [bk_Tr_clear_10])
        | succ n10 ih10 =>
          intro ws H locs ls s v1 v2 hw hR hl h
          have h : bk_Tr_clear_10_o (bk_Tr_clear_2 n2) (bk_Tr_clear_10 (bk_Tr_clear_2 n2) n10) s v1 v2 = some res := h
          unfold bk_Tr_clear_10_o at h
          refine lv_iload_n hx hb d_Tr_clear_10 rfl (lv_at hl 2 rfl) ?_
          refine lv_bipush (v := 6) hx hb d_Tr_clear_11 (by decide) ?_
          refine lv_icmp_ge hx hb (tgt := 31) d_Tr_clear_13 (by decide) (fun hc9 => ?_) (fun hc9 => ?_)
          · rw [if_pos hc9] at h
            refine lv_iinc (v := v1 + 1) (k := 1) (lv' := [(1, .int (v1 + 1)), (0, .ref (g.2.1 2)), (2, .int v2)]) hx hb d_Tr_clear_31 hl rfl rfl (by decide) rfl (fun ls hl => ?_)
            refine lv_goto hx hb (tgt := 2) d_Tr_clear_34 (by decide) ?_
            exact ih2 ws H locs ls s (v1 + 1) hw hR (lv_sub hl [1, 0] rfl) h
          · rw [if_neg hc9] at h
            refine lv_aload_n hx hb d_Tr_clear_16 rfl (lv_at hl 0 rfl) ?_
            refine gf_Tr_11 C0 hw hR d_Tr_clear_17 ?_
            refine lv_iload_n hx hb d_Tr_clear_20 rfl (lv_at hl 1 rfl) ?_
            obtain ⟨hg21, h⟩ := ct_gd_some h
            refine ct_ldoc C0 hw hR (ct_inR_vp hg21) d_Tr_clear_21 ?_
            refine lv_iload_n hx hb d_Tr_clear_22 rfl (lv_at hl 2 rfl) ?_
            refine lv_iconst (v := 0) hx hb d_Tr_clear_23 (by decide) ?_
            obtain ⟨hg24, h⟩ := ct_gd_some h
            refine ct_strw C0 hw hR (ct_inR_lt hg21) (ct_inR_vp hg24) d_Tr_clear_24 (fun ws H locs hw hR => ?_)
            obtain ⟨s1, es9, h⟩ := ct_nm_ex h
            rw [← es9] at hR
            clear es9
            refine lv_iinc (v := v2 + 1) (k := 2) (lv' := [(2, .int (v2 + 1)), (0, .ref (g.2.1 2)), (1, .int v1)]) hx hb d_Tr_clear_25 hl rfl rfl (by decide) rfl (fun ls hl => ?_)
            refine lv_goto hx hb (tgt := 10) d_Tr_clear_28 (by decide) ?_
            exact ih10 ws H locs ls s1 v1 (v2 + 1) hw hR (lv_sub hl [1, 2, 0] rfl) h
      intro ws H locs ls s v1 hw hR hl h
      have h : bk_Tr_clear_2_o (bk_Tr_clear_2 n2) s v1 = some res := h
      unfold bk_Tr_clear_2_o at h
      refine lv_iload_n hx hb d_Tr_clear_2 rfl (lv_at hl 1 rfl) ?_
      refine lv_bipush (v := 6) hx hb d_Tr_clear_3 (by decide) ?_
      refine lv_icmp_ge hx hb (tgt := 37) d_Tr_clear_5 (by decide) (fun hc9 => ?_) (fun hc9 => ?_)
      · rw [if_pos hc9] at h
        obtain rfl := Option.some.inj h
        exact hret hw hR d_Tr_clear_37
      · rw [if_neg hc9] at h
        refine lv_iconst (v := 0) hx hb d_Tr_clear_8 (by decide) ?_
        refine lv_istore_n (lv' := [(2, .int 0), (0, .ref (g.2.1 2)), (1, .int v1)]) hx hb d_Tr_clear_9 rfl hl (by decide) rfl (fun ls hl => ?_)
        exact L10 200 ws H locs ls s v1 0 hw hR (lv_sub hl [1, 2, 0] rfl) h
  unfold fn_Tr_clear at h
  obtain ⟨ws, hwe⟩ : ∃ z : va_W, z = ws0 := ⟨_, rfl⟩
  rw [← hwe] at hw
  have hR : cs_Rel g ws0 ws s := by rw [hwe]; exact hR
  clear hwe
  refine lv_iconst (v := 0) hx hb d_Tr_clear_0 (by decide) ?_
  refine lv_istore_n (lv' := [(1, .int 0), (0, .ref (g.2.1 2))]) hx hb d_Tr_clear_1 rfl hl (by decide) rfl (fun ls hl => ?_)
  exact L2 200 ws H locs ls s 0 hw hR (lv_sub hl [1, 0] rfl) h

theorem d_Le_livesIn_0 : decode c_Le_livesIn 0 = .ok (.aload_n 0, 1) := by decide +kernel
theorem d_Le_livesIn_1 : decode c_Le_livesIn 1 = .ok (.getfield 28, 3) := by decide +kernel
theorem d_Le_livesIn_4 : decode c_Le_livesIn 4 = .ok (.iload_n 1, 1) := by decide +kernel
theorem d_Le_livesIn_5 : decode c_Le_livesIn 5 = .ok (.baload, 1) := by decide +kernel
theorem d_Le_livesIn_6 : decode c_Le_livesIn 6 = .ok (.ifCond .eq 17, 3) := by decide +kernel
theorem d_Le_livesIn_9 : decode c_Le_livesIn 9 = .ok (.aload_n 0, 1) := by decide +kernel
theorem d_Le_livesIn_10 : decode c_Le_livesIn 10 = .ok (.getfield 9, 3) := by decide +kernel
theorem d_Le_livesIn_13 : decode c_Le_livesIn 13 = .ok (.iload_n 1, 1) := by decide +kernel
theorem d_Le_livesIn_14 : decode c_Le_livesIn 14 = .ok (.iaload, 1) := by decide +kernel
theorem d_Le_livesIn_15 : decode c_Le_livesIn 15 = .ok (.iload_n 2, 1) := by decide +kernel
theorem d_Le_livesIn_16 : decode c_Le_livesIn 16 = .ok (.if_icmp .ne 7, 3) := by decide +kernel
theorem d_Le_livesIn_19 : decode c_Le_livesIn 19 = .ok (.iconst 1, 1) := by decide +kernel
theorem d_Le_livesIn_20 : decode c_Le_livesIn 20 = .ok (.goto 4, 3) := by decide +kernel
theorem d_Le_livesIn_23 : decode c_Le_livesIn 23 = .ok (.iconst 0, 1) := by decide +kernel
theorem d_Le_livesIn_24 : decode c_Le_livesIn 24 = .ok (.ireturn, 1) := by decide +kernel
set_option maxHeartbeats 4000000 in
set_option maxRecDepth 100000 in
theorem s_Le_livesIn (l : Launch) (g : Gx) (ws0 : va_W) (sz : Nat) {s : CS} {a1 : Int32} {a2 : Int32} {res : Int32} (hR : cs_Rel g ws0 ws0 s) (h : fn_Le_livesIn s a1 a2 = some res) : ct_MI l y_Le_livesIn c_Le_livesIn 3 (some .boolean) rm_Le_livesIn g ws0 sz [.ref (g.2.1 1), .int a1, .int a2] res (fun u => u = ws0) := by
  refine ct_startz (by decide +kernel) (Nat.le_of_ble_eq_true rfl) (fun p e sv m args below meth c ls Q A H locs C0 hret hl hw => ?_)
  have hx := C0.1
  have hb := C0.2.1
  have hown := C0.2.2.2.1
  have hts := C0.2.2.2.2.1
  have hl : lv_has ls 3 [(0, .ref (g.2.1 1)), (1, .int a1), (2, .int a2)] := hl
  unfold fn_Le_livesIn at h
  refine lv_aload_n hx hb d_Le_livesIn_0 rfl (lv_at hl 0 rfl) ?_
  refine gf_Le_28 C0 hw hR d_Le_livesIn_1 ?_
  refine lv_iload_n hx hb d_Le_livesIn_4 rfl (lv_at hl 1 rfl) ?_
  obtain ⟨hg5, h⟩ := ct_gd_some h
  refine ct_ldZ (k := 5) C0 hw hR (by decide) (by decide) (ct_inR_vp hg5) d_Le_livesIn_5 ?_
  refine lv_if_eq hx hb (tgt := 23) d_Le_livesIn_6 (by decide) (fun hc9 => ?_) (fun hc9 => ?_)
  · rw [if_pos hc9] at h
    refine lv_iconst (v := 0) hx hb d_Le_livesIn_23 (by decide) ?_
    have hz : ct_isB 0 = true := by decide
    obtain rfl := Option.some.inj h
    exact hret hz hw rfl d_Le_livesIn_24
  · rw [if_neg hc9] at h
    refine lv_aload_n hx hb d_Le_livesIn_9 rfl (lv_at hl 0 rfl) ?_
    refine gf_Le_9 C0 hw hR d_Le_livesIn_10 ?_
    refine lv_iload_n hx hb d_Le_livesIn_13 rfl (lv_at hl 1 rfl) ?_
    obtain ⟨hg14, h⟩ := ct_gd_some h
    refine ct_ldA (k := 0) C0 hw hR (by decide) (ct_inR_vp hg14) d_Le_livesIn_14 ?_
    refine lv_iload_n hx hb d_Le_livesIn_15 rfl (lv_at hl 2 rfl) ?_
    refine lv_icmp_ne hx hb (tgt := 23) d_Le_livesIn_16 (by decide) (fun hc9 => ?_) (fun hc9 => ?_)
    · rw [if_pos hc9] at h
      refine lv_iconst (v := 0) hx hb d_Le_livesIn_23 (by decide) ?_
      have hz : ct_isB 0 = true := by decide
      obtain rfl := Option.some.inj h
      exact hret hz hw rfl d_Le_livesIn_24
    · rw [if_neg (fun q => q hc9)] at h
      refine lv_iconst (v := 1) hx hb d_Le_livesIn_19 (by decide) ?_
      refine lv_goto hx hb (tgt := 24) d_Le_livesIn_20 (by decide) ?_
      have hz : ct_isB 1 = true := by decide
      obtain rfl := Option.some.inj h
      exact hret hz hw rfl d_Le_livesIn_24

theorem d_Tr_add_0 : decode c_Tr_add 0 = .ok (.iload_n 1, 1) := by decide +kernel
theorem d_Tr_add_1 : decode c_Tr_add 1 = .ok (.aload_n 0, 1) := by decide +kernel
theorem d_Tr_add_2 : decode c_Tr_add 2 = .ok (.getfield 24, 3) := by decide +kernel
theorem d_Tr_add_5 : decode c_Tr_add 5 = .ok (.idiv, 1) := by decide +kernel
theorem d_Tr_add_6 : decode c_Tr_add 6 = .ok (.istore 4, 2) := by decide +kernel
theorem d_Tr_add_8 : decode c_Tr_add 8 = .ok (.iload_n 2, 1) := by decide +kernel
theorem d_Tr_add_9 : decode c_Tr_add 9 = .ok (.aload_n 0, 1) := by decide +kernel
theorem d_Tr_add_10 : decode c_Tr_add 10 = .ok (.getfield 24, 3) := by decide +kernel
theorem d_Tr_add_13 : decode c_Tr_add 13 = .ok (.idiv, 1) := by decide +kernel
theorem d_Tr_add_14 : decode c_Tr_add 14 = .ok (.istore 5, 2) := by decide +kernel
theorem d_Tr_add_16 : decode c_Tr_add 16 = .ok (.iload 5, 2) := by decide +kernel
theorem d_Tr_add_18 : decode c_Tr_add 18 = .ok (.aload_n 0, 1) := by decide +kernel
theorem d_Tr_add_19 : decode c_Tr_add 19 = .ok (.getfield 31, 3) := by decide +kernel
theorem d_Tr_add_22 : decode c_Tr_add 22 = .ok (.if_icmp .ge 20, 3) := by decide +kernel
theorem d_Tr_add_25 : decode c_Tr_add 25 = .ok (.aload_n 0, 1) := by decide +kernel
theorem d_Tr_add_26 : decode c_Tr_add 26 = .ok (.getfield 11, 3) := by decide +kernel
theorem d_Tr_add_29 : decode c_Tr_add 29 = .ok (.iload 4, 2) := by decide +kernel
theorem d_Tr_add_31 : decode c_Tr_add 31 = .ok (.aaload, 1) := by decide +kernel
theorem d_Tr_add_32 : decode c_Tr_add 32 = .ok (.iload 5, 2) := by decide +kernel
theorem d_Tr_add_34 : decode c_Tr_add 34 = .ok (.iload 4, 2) := by decide +kernel
theorem d_Tr_add_36 : decode c_Tr_add 36 = .ok (.isub, 1) := by decide +kernel
theorem d_Tr_add_37 : decode c_Tr_add 37 = .ok (.dup2, 1) := by decide +kernel
theorem d_Tr_add_38 : decode c_Tr_add 38 = .ok (.iaload, 1) := by decide +kernel
theorem d_Tr_add_39 : decode c_Tr_add 39 = .ok (.iload_n 3, 1) := by decide +kernel
theorem d_Tr_add_40 : decode c_Tr_add 40 = .ok (.iadd, 1) := by decide +kernel
theorem d_Tr_add_41 : decode c_Tr_add 41 = .ok (.iastore, 1) := by decide +kernel
theorem d_Tr_add_42 : decode c_Tr_add 42 = .ok (.return_, 1) := by decide +kernel
set_option maxHeartbeats 4000000 in
set_option maxRecDepth 100000 in
theorem s_Tr_add (l : Launch) (g : Gx) (ws0 : va_W) (sz : Nat) {s : CS} {a1 : Int32} {a2 : Int32} {a3 : Int32} {res : CS} (hR : cs_Rel g ws0 ws0 s) (h : fn_Tr_add s a1 a2 a3 = some res) : ct_MV l y_Tr_add c_Tr_add 6 none rm_Tr_add g ws0 sz [.ref (g.2.1 2), .int a1, .int a2, .int a3]  (fun u => cs_Rel g ws0 u res) := by
  refine ct_startv (by decide +kernel) (Nat.le_of_ble_eq_true rfl) (fun p e sv m args below meth c ls Q A H locs C0 hret hl hw => ?_)
  have hx := C0.1
  have hb := C0.2.1
  have hown := C0.2.2.2.1
  have hts := C0.2.2.2.2.1
  have hl : lv_has ls 6 [(0, .ref (g.2.1 2)), (1, .int a1), (2, .int a2), (3, .int a3)] := hl
  unfold fn_Tr_add at h
  obtain ⟨ws, hwe⟩ : ∃ z : va_W, z = ws0 := ⟨_, rfl⟩
  rw [← hwe] at hw
  have hR : cs_Rel g ws0 ws s := by rw [hwe]; exact hR
  clear hwe
  refine lv_iload_n hx hb d_Tr_add_0 rfl (lv_at hl 1 rfl) ?_
  refine lv_aload_n hx hb d_Tr_add_1 rfl (lv_at hl 0 rfl) ?_
  refine gf_Tr_24 C0 hw hR d_Tr_add_2 ?_
  obtain ⟨hg, h⟩ := ct_gd_some h
  refine lv_idiv hx hb d_Tr_add_5 (ct_gzI_ne hg) ?_
  refine lv_topi (fun x1 e9 => ?_)
  have h := ct_nm_at h e9
  clear e9
  refine lv_istore (lv' := [(4, .int x1), (0, .ref (g.2.1 2)), (1, .int a1), (2, .int a2), (3, .int a3)]) hx hb d_Tr_add_6 hl (by decide) rfl (fun ls hl => ?_)
  refine lv_iload_n hx hb d_Tr_add_8 rfl (lv_at hl 3 rfl) ?_
  refine lv_aload_n hx hb d_Tr_add_9 rfl (lv_at hl 1 rfl) ?_
  refine gf_Tr_24 C0 hw hR d_Tr_add_10 ?_
  obtain ⟨hg, h⟩ := ct_gd_some h
  refine lv_idiv hx hb d_Tr_add_13 (ct_gzI_ne hg) ?_
  refine lv_topi (fun x2 e9 => ?_)
  have h := ct_nm_at h e9
  clear e9
  refine lv_istore (lv' := [(5, .int x2), (4, .int x1), (0, .ref (g.2.1 2)), (1, .int a1), (2, .int a2), (3, .int a3)]) hx hb d_Tr_add_14 hl (by decide) rfl (fun ls hl => ?_)
  refine lv_iload hx hb d_Tr_add_16 (lv_at hl 0 rfl) ?_
  refine lv_aload_n hx hb d_Tr_add_18 rfl (lv_at hl 2 rfl) ?_
  refine gf_Tr_31 C0 hw hR d_Tr_add_19 ?_
  refine lv_icmp_ge hx hb (tgt := 42) d_Tr_add_22 (by decide) (fun hc9 => ?_) (fun hc9 => ?_)
  · rw [if_pos hc9] at h
    obtain rfl := Option.some.inj h
    exact hret hw hR d_Tr_add_42
  · rw [if_neg hc9] at h
    refine lv_aload_n hx hb d_Tr_add_25 rfl (lv_at hl 2 rfl) ?_
    refine gf_Tr_11 C0 hw hR d_Tr_add_26 ?_
    refine lv_iload hx hb d_Tr_add_29 (lv_at hl 1 rfl) ?_
    obtain ⟨hg31, h⟩ := ct_gd_some h
    refine ct_ldoc C0 hw hR (ct_inR_vp hg31) d_Tr_add_31 ?_
    refine lv_iload hx hb d_Tr_add_32 (lv_at hl 0 rfl) ?_
    refine lv_iload hx hb d_Tr_add_34 (lv_at hl 1 rfl) ?_
    refine lv_isub hx hb d_Tr_add_36 ?_
    refine lv_dup2_11 hx hb d_Tr_add_37 rfl rfl ?_
    obtain ⟨hg38, h⟩ := ct_gd_some h
    refine ct_ldrw C0 hw hR (ct_inR_lt hg31) (ct_inR_vp hg38) d_Tr_add_38 ?_
    refine lv_iload_n hx hb d_Tr_add_39 rfl (lv_at hl 5 rfl) ?_
    refine lv_iadd hx hb d_Tr_add_40 ?_
    obtain ⟨hg41, h⟩ := ct_gd_some h
    refine ct_strw C0 hw hR (ct_inR_lt hg31) (ct_inR_vp hg41) d_Tr_add_41 (fun ws H locs hw hR => ?_)
    obtain ⟨s3, es9, h⟩ := ct_nm_ex h
    rw [← es9] at hR
    clear es9
    obtain rfl := Option.some.inj h
    exact hret hw hR d_Tr_add_42

theorem d_Le_replaces_0 : decode c_Le_replaces 0 = .ok (.aload_n 0, 1) := by decide +kernel
theorem d_Le_replaces_1 : decode c_Le_replaces 1 = .ok (.getfield 24, 3) := by decide +kernel
theorem d_Le_replaces_4 : decode c_Le_replaces 4 = .ok (.iload_n 1, 1) := by decide +kernel
theorem d_Le_replaces_5 : decode c_Le_replaces 5 = .ok (.baload, 1) := by decide +kernel
theorem d_Le_replaces_6 : decode c_Le_replaces 6 = .ok (.ifCond .eq 17, 3) := by decide +kernel
theorem d_Le_replaces_9 : decode c_Le_replaces 9 = .ok (.aload_n 0, 1) := by decide +kernel
theorem d_Le_replaces_10 : decode c_Le_replaces 10 = .ok (.iload_n 1, 1) := by decide +kernel
theorem d_Le_replaces_11 : decode c_Le_replaces 11 = .ok (.aload_n 0, 1) := by decide +kernel
theorem d_Le_replaces_12 : decode c_Le_replaces 12 = .ok (.getfield 9, 3) := by decide +kernel
theorem d_Le_replaces_15 : decode c_Le_replaces 15 = .ok (.iload_n 2, 1) := by decide +kernel
theorem d_Le_replaces_16 : decode c_Le_replaces 16 = .ok (.iaload, 1) := by decide +kernel
theorem d_Le_replaces_17 : decode c_Le_replaces 17 = .ok (.invokevirtual 35, 3) := by decide +kernel
theorem d_Le_replaces_20 : decode c_Le_replaces 20 = .ok (.ifCond .ne 5, 3) := by decide +kernel
theorem d_Le_replaces_23 : decode c_Le_replaces 23 = .ok (.iconst 0, 1) := by decide +kernel
theorem d_Le_replaces_24 : decode c_Le_replaces 24 = .ok (.ireturn, 1) := by decide +kernel
theorem d_Le_replaces_25 : decode c_Le_replaces 25 = .ok (.aload_n 0, 1) := by decide +kernel
theorem d_Le_replaces_26 : decode c_Le_replaces 26 = .ok (.getfield 15, 3) := by decide +kernel
theorem d_Le_replaces_29 : decode c_Le_replaces 29 = .ok (.iload_n 1, 1) := by decide +kernel
theorem d_Le_replaces_30 : decode c_Le_replaces 30 = .ok (.iaload, 1) := by decide +kernel
theorem d_Le_replaces_31 : decode c_Le_replaces 31 = .ok (.aload_n 0, 1) := by decide +kernel
theorem d_Le_replaces_32 : decode c_Le_replaces 32 = .ok (.getfield 15, 3) := by decide +kernel
theorem d_Le_replaces_35 : decode c_Le_replaces 35 = .ok (.iload_n 2, 1) := by decide +kernel
theorem d_Le_replaces_36 : decode c_Le_replaces 36 = .ok (.iaload, 1) := by decide +kernel
theorem d_Le_replaces_37 : decode c_Le_replaces 37 = .ok (.if_icmp .eq 5, 3) := by decide +kernel
theorem d_Le_replaces_40 : decode c_Le_replaces 40 = .ok (.iconst 0, 1) := by decide +kernel
theorem d_Le_replaces_41 : decode c_Le_replaces 41 = .ok (.ireturn, 1) := by decide +kernel
theorem d_Le_replaces_42 : decode c_Le_replaces 42 = .ok (.aload_n 0, 1) := by decide +kernel
theorem d_Le_replaces_43 : decode c_Le_replaces 43 = .ok (.getfield 18, 3) := by decide +kernel
theorem d_Le_replaces_46 : decode c_Le_replaces 46 = .ok (.iload_n 1, 1) := by decide +kernel
theorem d_Le_replaces_47 : decode c_Le_replaces 47 = .ok (.iaload, 1) := by decide +kernel
theorem d_Le_replaces_48 : decode c_Le_replaces 48 = .ok (.aload_n 0, 1) := by decide +kernel
theorem d_Le_replaces_49 : decode c_Le_replaces 49 = .ok (.getfield 18, 3) := by decide +kernel
theorem d_Le_replaces_52 : decode c_Le_replaces 52 = .ok (.iload_n 2, 1) := by decide +kernel
theorem d_Le_replaces_53 : decode c_Le_replaces 53 = .ok (.iaload, 1) := by decide +kernel
theorem d_Le_replaces_54 : decode c_Le_replaces 54 = .ok (.if_icmp .gt 23, 3) := by decide +kernel
theorem d_Le_replaces_57 : decode c_Le_replaces 57 = .ok (.aload_n 0, 1) := by decide +kernel
theorem d_Le_replaces_58 : decode c_Le_replaces 58 = .ok (.getfield 18, 3) := by decide +kernel
theorem d_Le_replaces_61 : decode c_Le_replaces 61 = .ok (.iload_n 1, 1) := by decide +kernel
theorem d_Le_replaces_62 : decode c_Le_replaces 62 = .ok (.iaload, 1) := by decide +kernel
theorem d_Le_replaces_63 : decode c_Le_replaces 63 = .ok (.aload_n 0, 1) := by decide +kernel
theorem d_Le_replaces_64 : decode c_Le_replaces 64 = .ok (.getfield 18, 3) := by decide +kernel
theorem d_Le_replaces_67 : decode c_Le_replaces 67 = .ok (.iload_n 2, 1) := by decide +kernel
theorem d_Le_replaces_68 : decode c_Le_replaces 68 = .ok (.iaload, 1) := by decide +kernel
theorem d_Le_replaces_69 : decode c_Le_replaces 69 = .ok (.if_icmp .ne 12, 3) := by decide +kernel
theorem d_Le_replaces_72 : decode c_Le_replaces 72 = .ok (.iload_n 1, 1) := by decide +kernel
theorem d_Le_replaces_73 : decode c_Le_replaces 73 = .ok (.iload_n 2, 1) := by decide +kernel
theorem d_Le_replaces_74 : decode c_Le_replaces 74 = .ok (.if_icmp .le 7, 3) := by decide +kernel
theorem d_Le_replaces_77 : decode c_Le_replaces 77 = .ok (.iconst 1, 1) := by decide +kernel
theorem d_Le_replaces_78 : decode c_Le_replaces 78 = .ok (.goto 4, 3) := by decide +kernel
theorem d_Le_replaces_81 : decode c_Le_replaces 81 = .ok (.iconst 0, 1) := by decide +kernel
theorem d_Le_replaces_82 : decode c_Le_replaces 82 = .ok (.ireturn, 1) := by decide +kernel
set_option maxHeartbeats 4000000 in
set_option maxRecDepth 100000 in
theorem s_Le_replaces (l : Launch) (g : Gx) (ws0 : va_W) (sz : Nat) {s : CS} {a1 : Int32} {a2 : Int32} {res : Int32} (hR : cs_Rel g ws0 ws0 s) (h : fn_Le_replaces s a1 a2 = some res) : ct_MI l y_Le_replaces c_Le_replaces 3 (some .boolean) rm_Le_replaces g ws0 sz [.ref (g.2.1 1), .int a1, .int a2] res (fun u => u = ws0) := by
  refine ct_startz (by decide +kernel) (Nat.le_of_ble_eq_true rfl) (fun p e sv m args below meth c ls Q A H locs C0 hret hl hw => ?_)
  have hx := C0.1
  have hb := C0.2.1
  have hown := C0.2.2.2.1
  have hts := C0.2.2.2.2.1
  have hl : lv_has ls 3 [(0, .ref (g.2.1 1)), (1, .int a1), (2, .int a2)] := hl
  unfold fn_Le_replaces at h
  refine lv_aload_n hx hb d_Le_replaces_0 rfl (lv_at hl 0 rfl) ?_
  refine gf_Le_24 C0 hw hR d_Le_replaces_1 ?_
  refine lv_iload_n hx hb d_Le_replaces_4 rfl (lv_at hl 1 rfl) ?_
  obtain ⟨hg5, h⟩ := ct_gd_some h
  refine ct_ldZ (k := 4) C0 hw hR (by decide) (by decide) (ct_inR_vp hg5) d_Le_replaces_5 ?_
  refine lv_if_eq hx hb (tgt := 23) d_Le_replaces_6 (by decide) (fun hc9 => ?_) (fun hc9 => ?_)
  · rw [if_pos hc9] at h
    refine lv_iconst (v := 0) hx hb d_Le_replaces_23 (by decide) ?_
    have hz : ct_isB 0 = true := by decide
    obtain rfl := Option.some.inj h
    exact hret hz hw rfl d_Le_replaces_24
  · rw [if_neg hc9] at h
    refine lv_aload_n hx hb d_Le_replaces_9 rfl (lv_at hl 0 rfl) ?_
    refine lv_iload_n hx hb d_Le_replaces_10 rfl (lv_at hl 1 rfl) ?_
    refine lv_aload_n hx hb d_Le_replaces_11 rfl (lv_at hl 0 rfl) ?_
    refine gf_Le_9 C0 hw hR d_Le_replaces_12 ?_
    refine lv_iload_n hx hb d_Le_replaces_15 rfl (lv_at hl 2 rfl) ?_
    obtain ⟨hg16, h⟩ := ct_gd_some h
    refine ct_ldA (k := 0) C0 hw hR (by decide) (ct_inR_vp hg16) d_Le_replaces_16 ?_
    obtain ⟨x1, ho, h⟩ := ct_ob_some h
    refine ct_callVi C0 hw hl.1 (q0 := 1) (hR.1 1 (by decide)) rfl (ct_giV wd_339 wd_320 wd_321 wd_2 wd_322) (fun sz => s_Le_livesIn l g ws0 sz hR.rf ho) (nA := 2) (rm := rm_Le_livesIn) (by decide +kernel) rfl ⟨rfl, rfl⟩ (by decide) (by decide) (As := [.int a1, .int (cs_A s 0 a2.toNatClampNeg)]) (rest := []) rfl (Nat.le_of_ble_eq_true rfl) d_Le_replaces_17 (fun ws1 H locs hw hp => ?_)
    rw [hp] at hw
    clear hp
    refine lv_if_ne hx hb (tgt := 25) d_Le_replaces_20 (by decide) (fun hc9 => ?_) (fun hc9 => ?_)
    · rw [if_pos hc9] at h
      refine lv_aload_n hx hb d_Le_replaces_25 rfl (lv_at hl 0 rfl) ?_
      refine gf_Le_15 C0 hw hR d_Le_replaces_26 ?_
      refine lv_iload_n hx hb d_Le_replaces_29 rfl (lv_at hl 1 rfl) ?_
      obtain ⟨hg30, h⟩ := ct_gd_some h
      refine ct_ldA (k := 1) C0 hw hR (by decide) (ct_inR_vp hg30) d_Le_replaces_30 ?_
      refine lv_aload_n hx hb d_Le_replaces_31 rfl (lv_at hl 0 rfl) ?_
      refine gf_Le_15 C0 hw hR d_Le_replaces_32 ?_
      refine lv_iload_n hx hb d_Le_replaces_35 rfl (lv_at hl 2 rfl) ?_
      obtain ⟨hg36, h⟩ := ct_gd_some h
      refine ct_ldA (k := 1) C0 hw hR (by decide) (ct_inR_vp hg36) d_Le_replaces_36 ?_
      refine lv_icmp_eq hx hb (tgt := 42) d_Le_replaces_37 (by decide) (fun hc9 => ?_) (fun hc9 => ?_)
      · rw [if_pos hc9] at h
        refine lv_aload_n hx hb d_Le_replaces_42 rfl (lv_at hl 0 rfl) ?_
        refine gf_Le_18 C0 hw hR d_Le_replaces_43 ?_
        refine lv_iload_n hx hb d_Le_replaces_46 rfl (lv_at hl 1 rfl) ?_
        obtain ⟨hg47, h⟩ := ct_gd_some h
        refine ct_ldA (k := 2) C0 hw hR (by decide) (ct_inR_vp hg47) d_Le_replaces_47 ?_
        refine lv_aload_n hx hb d_Le_replaces_48 rfl (lv_at hl 0 rfl) ?_
        refine gf_Le_18 C0 hw hR d_Le_replaces_49 ?_
        refine lv_iload_n hx hb d_Le_replaces_52 rfl (lv_at hl 2 rfl) ?_
        obtain ⟨hg53, h⟩ := ct_gd_some h
        refine ct_ldA (k := 2) C0 hw hR (by decide) (ct_inR_vp hg53) d_Le_replaces_53 ?_
        refine lv_icmp_gt hx hb (tgt := 77) d_Le_replaces_54 (by decide) (fun hc9 => ?_) (fun hc9 => ?_)
        · rw [if_pos hc9] at h
          refine lv_iconst (v := 1) hx hb d_Le_replaces_77 (by decide) ?_
          refine lv_goto hx hb (tgt := 82) d_Le_replaces_78 (by decide) ?_
          have hz : ct_isB 1 = true := by decide
          obtain rfl := Option.some.inj h
          exact hret hz hw rfl d_Le_replaces_82
        · rw [if_neg hc9] at h
          refine lv_aload_n hx hb d_Le_replaces_57 rfl (lv_at hl 0 rfl) ?_
          refine gf_Le_18 C0 hw hR d_Le_replaces_58 ?_
          refine lv_iload_n hx hb d_Le_replaces_61 rfl (lv_at hl 1 rfl) ?_
          obtain ⟨hg62, h⟩ := ct_gd_some h
          refine ct_ldA (k := 2) C0 hw hR (by decide) (ct_inR_vp hg62) d_Le_replaces_62 ?_
          refine lv_aload_n hx hb d_Le_replaces_63 rfl (lv_at hl 0 rfl) ?_
          refine gf_Le_18 C0 hw hR d_Le_replaces_64 ?_
          refine lv_iload_n hx hb d_Le_replaces_67 rfl (lv_at hl 2 rfl) ?_
          obtain ⟨hg68, h⟩ := ct_gd_some h
          refine ct_ldA (k := 2) C0 hw hR (by decide) (ct_inR_vp hg68) d_Le_replaces_68 ?_
          refine lv_icmp_ne hx hb (tgt := 81) d_Le_replaces_69 (by decide) (fun hc9 => ?_) (fun hc9 => ?_)
          · rw [if_pos hc9] at h
            refine lv_iconst (v := 0) hx hb d_Le_replaces_81 (by decide) ?_
            have hz : ct_isB 0 = true := by decide
            obtain rfl := Option.some.inj h
            exact hret hz hw rfl d_Le_replaces_82
          · rw [if_neg (fun q => q hc9)] at h
            refine lv_iload_n hx hb d_Le_replaces_72 rfl (lv_at hl 1 rfl) ?_
            refine lv_iload_n hx hb d_Le_replaces_73 rfl (lv_at hl 2 rfl) ?_
            refine lv_icmp_le hx hb (tgt := 81) d_Le_replaces_74 (by decide) (fun hc9 => ?_) (fun hc9 => ?_)
            · rw [if_pos hc9] at h
              refine lv_iconst (v := 0) hx hb d_Le_replaces_81 (by decide) ?_
              have hz : ct_isB 0 = true := by decide
              obtain rfl := Option.some.inj h
              exact hret hz hw rfl d_Le_replaces_82
            · rw [if_neg hc9] at h
              refine lv_iconst (v := 1) hx hb d_Le_replaces_77 (by decide) ?_
              refine lv_goto hx hb (tgt := 82) d_Le_replaces_78 (by decide) ?_
              have hz : ct_isB 1 = true := by decide
              obtain rfl := Option.some.inj h
              exact hret hz hw rfl d_Le_replaces_82
      · rw [if_neg hc9] at h
        refine lv_iconst (v := 0) hx hb d_Le_replaces_40 (by decide) ?_
        have hz : ct_isB 0 = true := by decide
        obtain rfl := Option.some.inj h
        exact hret hz hw rfl d_Le_replaces_41
    · rw [if_neg (fun q => q hc9)] at h
      refine lv_iconst (v := 0) hx hb d_Le_replaces_23 (by decide) ?_
      have hz : ct_isB 0 = true := by decide
      obtain rfl := Option.some.inj h
      exact hret hz hw rfl d_Le_replaces_24

theorem d_Le_replacedIn_0 : decode c_Le_replacedIn 0 = .ok (.bipush 72, 2) := by decide +kernel
theorem d_Le_replacedIn_2 : decode c_Le_replacedIn 2 = .ok (.istore_n 2, 1) := by decide +kernel
theorem d_Le_replacedIn_3 : decode c_Le_replacedIn 3 = .ok (.iconst 0, 1) := by decide +kernel
theorem d_Le_replacedIn_4 : decode c_Le_replacedIn 4 = .ok (.istore_n 3, 1) := by decide +kernel
theorem d_Le_replacedIn_5 : decode c_Le_replacedIn 5 = .ok (.iload_n 3, 1) := by decide +kernel
theorem d_Le_replacedIn_6 : decode c_Le_replacedIn 6 = .ok (.aload_n 0, 1) := by decide +kernel
theorem d_Le_replacedIn_7 : decode c_Le_replacedIn 7 = .ok (.getfield 31, 3) := by decide +kernel
theorem d_Le_replacedIn_10 : decode c_Le_replacedIn 10 = .ok (.if_icmp .ge 35, 3) := by decide +kernel
theorem d_Le_replacedIn_13 : decode c_Le_replacedIn 13 = .ok (.aload_n 0, 1) := by decide +kernel
theorem d_Le_replacedIn_14 : decode c_Le_replacedIn 14 = .ok (.iload_n 3, 1) := by decide +kernel
theorem d_Le_replacedIn_15 : decode c_Le_replacedIn 15 = .ok (.iload_n 1, 1) := by decide +kernel
theorem d_Le_replacedIn_16 : decode c_Le_replacedIn 16 = .ok (.invokevirtual 39, 3) := by decide +kernel
theorem d_Le_replacedIn_19 : decode c_Le_replacedIn 19 = .ok (.ifCond .eq 20, 3) := by decide +kernel
theorem d_Le_replacedIn_22 : decode c_Le_replacedIn 22 = .ok (.aload_n 0, 1) := by decide +kernel
theorem d_Le_replacedIn_23 : decode c_Le_replacedIn 23 = .ok (.getfield 18, 3) := by decide +kernel
theorem d_Le_replacedIn_26 : decode c_Le_replacedIn 26 = .ok (.iload_n 3, 1) := by decide +kernel
theorem d_Le_replacedIn_27 : decode c_Le_replacedIn 27 = .ok (.iaload, 1) := by decide +kernel
theorem d_Le_replacedIn_28 : decode c_Le_replacedIn 28 = .ok (.iload_n 2, 1) := by decide +kernel
theorem d_Le_replacedIn_29 : decode c_Le_replacedIn 29 = .ok (.if_icmp .ge 10, 3) := by decide +kernel
theorem d_Le_replacedIn_32 : decode c_Le_replacedIn 32 = .ok (.aload_n 0, 1) := by decide +kernel
theorem d_Le_replacedIn_33 : decode c_Le_replacedIn 33 = .ok (.getfield 18, 3) := by decide +kernel
theorem d_Le_replacedIn_36 : decode c_Le_replacedIn 36 = .ok (.iload_n 3, 1) := by decide +kernel
theorem d_Le_replacedIn_37 : decode c_Le_replacedIn 37 = .ok (.iaload, 1) := by decide +kernel
theorem d_Le_replacedIn_38 : decode c_Le_replacedIn 38 = .ok (.istore_n 2, 1) := by decide +kernel
theorem d_Le_replacedIn_39 : decode c_Le_replacedIn 39 = .ok (.iinc 3 1, 3) := by decide +kernel
theorem d_Le_replacedIn_42 : decode c_Le_replacedIn 42 = .ok (.goto (-37), 3) := by decide +kernel
theorem d_Le_replacedIn_45 : decode c_Le_replacedIn 45 = .ok (.iload_n 2, 1) := by decide +kernel
theorem d_Le_replacedIn_46 : decode c_Le_replacedIn 46 = .ok (.ireturn, 1) := by decide +kernel
set_option maxHeartbeats 4000000 in
set_option maxRecDepth 100000 in
theorem s_Le_replacedIn (l : Launch) (g : Gx) (ws0 : va_W) (sz : Nat) {s : CS} {a1 : Int32} {res : Int32} (hR : cs_Rel g ws0 ws0 s) (h : fn_Le_replacedIn s a1 = some res) : ct_MI l y_Le_replacedIn c_Le_replacedIn 4 (some .int) rm_Le_replacedIn g ws0 sz [.ref (g.2.1 1), .int a1] res (fun u => u = ws0) := by
  refine ct_starti (by decide +kernel) (Nat.le_of_ble_eq_true rfl) (fun p e sv m args below meth c ls Q A H locs C0 hret hl hw => ?_)
  have hx := C0.1
  have hb := C0.2.1
  have hown := C0.2.2.2.1
  have hts := C0.2.2.2.2.1
  have hl : lv_has ls 4 [(0, .ref (g.2.1 1)), (1, .int a1)] := hl
  have L5 : ∀ (n5 : Nat) (H : Heap) (locs : List Loc) (ls : Array Slot) (s : CS) (v2 : Int32) (v3 : Int32), ct_Wd g A sv ws0 H locs → cs_Rel g ws0 ws0 s → lv_has ls 4 [(0, .ref (g.2.1 1)), (1, .int a1), (2, .int v2), (3, .int v3)] → bk_Le_replacedIn_5 a1 n5 s v2 v3 = some res → W p l e rm_Le_replacedIn sv m args below meth c H locs 0 0 Q (F0 m 5 ls []) := by
    intro n5
    induction n5 with
    | zero =>
      intro H locs ls s v2 v3 hw hR hl h
      exact absurd h (by simp [bk_Le_replacedIn_5])
    | succ n5 ih5 =>
      have J39 : ∀ (H : Heap) (locs : List Loc) (ls : Array Slot) (s : CS) (v2 : Int32) (v3 : Int32), ct_Wd g A sv ws0 H locs → cs_Rel g ws0 ws0 s → lv_has ls 4 [(0, .ref (g.2.1 1)), (1, .int a1), (2, .int v2), (3, .int v3)] → bk_Le_replacedIn_39 a1 (bk_Le_replacedIn_5 a1 n5) s v2 v3 = some res → W p l e rm_Le_replacedIn sv m args below meth c H locs 0 0 Q (F0 m 39 ls []) := by
        intro H locs ls s v2 v3 hw hR hl h
        unfold bk_Le_replacedIn_39 at h
        refine lv_iinc (v := v3 + 1) (k := 3) (lv' := [(3, .int (v3 + 1)), (0, .ref (g.2.1 1)), (1, .int a1), (2, .int v2)]) hx hb d_Le_replacedIn_39 hl rfl rfl (by decide) rfl (fun ls hl => ?_)
        refine lv_goto hx hb (tgt := 5) d_Le_replacedIn_42 (by decide) ?_
        exact ih5 H locs ls s v2 (v3 + 1) hw hR (lv_sub hl [1, 2, 3, 0] rfl) h
      intro H locs ls s v2 v3 hw hR hl h
      have h : bk_Le_replacedIn_5_o a1 (bk_Le_replacedIn_5 a1 n5) s v2 v3 = some res := h
      unfold bk_Le_replacedIn_5_o at h
      refine lv_iload_n hx hb d_Le_replacedIn_5 rfl (lv_at hl 3 rfl) ?_
      refine lv_aload_n hx hb d_Le_replacedIn_6 rfl (lv_at hl 0 rfl) ?_
      refine gf_Le_31 C0 hw hR d_Le_replacedIn_7 ?_
      refine lv_icmp_ge hx hb (tgt := 45) d_Le_replacedIn_10 (by decide) (fun hc9 => ?_) (fun hc9 => ?_)
      · rw [if_pos hc9] at h
        refine lv_iload_n hx hb d_Le_replacedIn_45 rfl (lv_at hl 2 rfl) ?_
        obtain rfl := Option.some.inj h
        exact hret hw rfl d_Le_replacedIn_46
      · rw [if_neg hc9] at h
        refine lv_aload_n hx hb d_Le_replacedIn_13 rfl (lv_at hl 0 rfl) ?_
        refine lv_iload_n hx hb d_Le_replacedIn_14 rfl (lv_at hl 3 rfl) ?_
        refine lv_iload_n hx hb d_Le_replacedIn_15 rfl (lv_at hl 1 rfl) ?_
        obtain ⟨x1, ho, h⟩ := ct_ob_some h
        refine ct_callVi C0 hw hl.1 (q0 := 1) (hR.1 1 (by decide)) rfl (ct_giV wd_335 wd_337 sel_Le_replaces wd_2 wd_338) (fun sz => s_Le_replaces l g ws0 sz hR.rf ho) (nA := 2) (rm := rm_Le_replaces) (by decide +kernel) rfl ⟨rfl, rfl⟩ (by decide) (by decide) (As := [.int v3, .int a1]) (rest := []) rfl (Nat.le_of_ble_eq_true rfl) d_Le_replacedIn_16 (fun ws1 H locs hw hp => ?_)
        rw [hp] at hw
        clear hp
        refine lv_if_eq hx hb (tgt := 39) d_Le_replacedIn_19 (by decide) (fun hc9 => ?_) (fun hc9 => ?_)
        · rw [if_pos hc9] at h
          exact J39 H locs ls s v2 v3 hw hR (lv_sub hl [0, 1, 2, 3] rfl) h
        · rw [if_neg hc9] at h
          refine lv_aload_n hx hb d_Le_replacedIn_22 rfl (lv_at hl 0 rfl) ?_
          refine gf_Le_18 C0 hw hR d_Le_replacedIn_23 ?_
          refine lv_iload_n hx hb d_Le_replacedIn_26 rfl (lv_at hl 3 rfl) ?_
          obtain ⟨hg27, h⟩ := ct_gd_some h
          refine ct_ldA (k := 2) C0 hw hR (by decide) (ct_inR_vp hg27) d_Le_replacedIn_27 ?_
          refine lv_iload_n hx hb d_Le_replacedIn_28 rfl (lv_at hl 2 rfl) ?_
          refine lv_icmp_ge hx hb (tgt := 39) d_Le_replacedIn_29 (by decide) (fun hc9 => ?_) (fun hc9 => ?_)
          · rw [if_pos hc9] at h
            exact J39 H locs ls s v2 v3 hw hR (lv_sub hl [0, 1, 2, 3] rfl) h
          · rw [if_neg hc9] at h
            refine lv_aload_n hx hb d_Le_replacedIn_32 rfl (lv_at hl 0 rfl) ?_
            refine gf_Le_18 C0 hw hR d_Le_replacedIn_33 ?_
            refine lv_iload_n hx hb d_Le_replacedIn_36 rfl (lv_at hl 3 rfl) ?_
            obtain ⟨hg37, h⟩ := ct_gd_some h
            refine ct_ldA (k := 2) C0 hw hR (by decide) (ct_inR_vp hg37) d_Le_replacedIn_37 ?_
            refine lv_topi (fun x2 e9 => ?_)
            have h := ct_nm_at h e9
            clear e9
            refine lv_istore_n (lv' := [(2, .int x2), (0, .ref (g.2.1 1)), (1, .int a1), (3, .int v3)]) hx hb d_Le_replacedIn_38 rfl hl (by decide) rfl (fun ls hl => ?_)
            exact J39 H locs ls s x2 v3 hw hR (lv_sub hl [1, 2, 0, 3] rfl) h
  unfold fn_Le_replacedIn at h
  refine lv_bipush (v := 72) hx hb d_Le_replacedIn_0 (by decide) ?_
  refine lv_istore_n (lv' := [(2, .int 72), (0, .ref (g.2.1 1)), (1, .int a1)]) hx hb d_Le_replacedIn_2 rfl hl (by decide) rfl (fun ls hl => ?_)
  refine lv_iconst (v := 0) hx hb d_Le_replacedIn_3 (by decide) ?_
  refine lv_istore_n (lv' := [(3, .int 0), (2, .int 72), (0, .ref (g.2.1 1)), (1, .int a1)]) hx hb d_Le_replacedIn_4 rfl hl (by decide) rfl (fun ls hl => ?_)
  exact L5 200 H locs ls s 72 0 hw hR (lv_sub hl [2, 3, 1, 0] rfl) h

theorem d_Tr_addEstimate_0 : decode c_Tr_addEstimate 0 = .ok (.aload_n 1, 1) := by decide +kernel
theorem d_Tr_addEstimate_1 : decode c_Tr_addEstimate 1 = .ok (.getfield 54, 3) := by decide +kernel
theorem d_Tr_addEstimate_4 : decode c_Tr_addEstimate 4 = .ok (.iload_n 2, 1) := by decide +kernel
theorem d_Tr_addEstimate_5 : decode c_Tr_addEstimate 5 = .ok (.iaload, 1) := by decide +kernel
theorem d_Tr_addEstimate_6 : decode c_Tr_addEstimate 6 = .ok (.istore_n 3, 1) := by decide +kernel
theorem d_Tr_addEstimate_7 : decode c_Tr_addEstimate 7 = .ok (.aload_n 1, 1) := by decide +kernel
theorem d_Tr_addEstimate_8 : decode c_Tr_addEstimate 8 = .ok (.getfield 61, 3) := by decide +kernel
theorem d_Tr_addEstimate_11 : decode c_Tr_addEstimate 11 = .ok (.iload_n 2, 1) := by decide +kernel
theorem d_Tr_addEstimate_12 : decode c_Tr_addEstimate 12 = .ok (.iaload, 1) := by decide +kernel
theorem d_Tr_addEstimate_13 : decode c_Tr_addEstimate 13 = .ok (.istore 4, 2) := by decide +kernel
theorem d_Tr_addEstimate_15 : decode c_Tr_addEstimate 15 = .ok (.aload_n 0, 1) := by decide +kernel
theorem d_Tr_addEstimate_16 : decode c_Tr_addEstimate 16 = .ok (.iload_n 3, 1) := by decide +kernel
theorem d_Tr_addEstimate_17 : decode c_Tr_addEstimate 17 = .ok (.aload_n 1, 1) := by decide +kernel
theorem d_Tr_addEstimate_18 : decode c_Tr_addEstimate 18 = .ok (.getfield 58, 3) := by decide +kernel
theorem d_Tr_addEstimate_21 : decode c_Tr_addEstimate 21 = .ok (.iload_n 2, 1) := by decide +kernel
theorem d_Tr_addEstimate_22 : decode c_Tr_addEstimate 22 = .ok (.iaload, 1) := by decide +kernel
theorem d_Tr_addEstimate_23 : decode c_Tr_addEstimate 23 = .ok (.iload 4, 2) := by decide +kernel
theorem d_Tr_addEstimate_25 : decode c_Tr_addEstimate 25 = .ok (.invokevirtual 64, 3) := by decide +kernel
theorem d_Tr_addEstimate_28 : decode c_Tr_addEstimate 28 = .ok (.aload_n 0, 1) := by decide +kernel
theorem d_Tr_addEstimate_29 : decode c_Tr_addEstimate 29 = .ok (.iload_n 3, 1) := by decide +kernel
theorem d_Tr_addEstimate_30 : decode c_Tr_addEstimate 30 = .ok (.aload_n 1, 1) := by decide +kernel
theorem d_Tr_addEstimate_31 : decode c_Tr_addEstimate 31 = .ok (.iload_n 2, 1) := by decide +kernel
theorem d_Tr_addEstimate_32 : decode c_Tr_addEstimate 32 = .ok (.invokevirtual 75, 3) := by decide +kernel
theorem d_Tr_addEstimate_35 : decode c_Tr_addEstimate 35 = .ok (.iload 4, 2) := by decide +kernel
theorem d_Tr_addEstimate_37 : decode c_Tr_addEstimate 37 = .ok (.ineg, 1) := by decide +kernel
theorem d_Tr_addEstimate_38 : decode c_Tr_addEstimate 38 = .ok (.invokevirtual 64, 3) := by decide +kernel
theorem d_Tr_addEstimate_41 : decode c_Tr_addEstimate 41 = .ok (.return_, 1) := by decide +kernel
set_option maxHeartbeats 4000000 in
set_option maxRecDepth 100000 in
theorem s_Tr_addEstimate (l : Launch) (g : Gx) (ws0 : va_W) (sz : Nat) {s : CS} {a2 : Int32} {res : CS} (hR : cs_Rel g ws0 ws0 s) (h : fn_Tr_addEstimate s a2 = some res) : ct_MV l y_Tr_addEstimate c_Tr_addEstimate 5 none rm_Tr_addEstimate g ws0 sz [.ref (g.2.1 2), .ref (g.2.1 1), .int a2]  (fun u => cs_Rel g ws0 u res) := by
  refine ct_startv (by decide +kernel) (Nat.le_of_ble_eq_true rfl) (fun p e sv m args below meth c ls Q A H locs C0 hret hl hw => ?_)
  have hx := C0.1
  have hb := C0.2.1
  have hown := C0.2.2.2.1
  have hts := C0.2.2.2.2.1
  have hl : lv_has ls 5 [(0, .ref (g.2.1 2)), (1, .ref (g.2.1 1)), (2, .int a2)] := hl
  unfold fn_Tr_addEstimate at h
  obtain ⟨ws, hwe⟩ : ∃ z : va_W, z = ws0 := ⟨_, rfl⟩
  rw [← hwe] at hw
  have hR : cs_Rel g ws0 ws s := by rw [hwe]; exact hR
  clear hwe
  refine lv_aload_n hx hb d_Tr_addEstimate_0 rfl (lv_at hl 1 rfl) ?_
  refine gf_Tr_54 C0 hw hR d_Tr_addEstimate_1 ?_
  refine lv_iload_n hx hb d_Tr_addEstimate_4 rfl (lv_at hl 2 rfl) ?_
  obtain ⟨hg5, h⟩ := ct_gd_some h
  refine ct_ldA (k := 1) C0 hw hR (by decide) (ct_inR_vp hg5) d_Tr_addEstimate_5 ?_
  refine lv_topi (fun x1 e9 => ?_)
  have h := ct_nm_at h e9
  clear e9
  refine lv_istore_n (lv' := [(3, .int x1), (0, .ref (g.2.1 2)), (1, .ref (g.2.1 1)), (2, .int a2)]) hx hb d_Tr_addEstimate_6 rfl hl (by decide) rfl (fun ls hl => ?_)
  refine lv_aload_n hx hb d_Tr_addEstimate_7 rfl (lv_at hl 2 rfl) ?_
  refine gf_Tr_61 C0 hw hR d_Tr_addEstimate_8 ?_
  refine lv_iload_n hx hb d_Tr_addEstimate_11 rfl (lv_at hl 3 rfl) ?_
  obtain ⟨hg12, h⟩ := ct_gd_some h
  refine ct_ldA (k := 3) C0 hw hR (by decide) (ct_inR_vp hg12) d_Tr_addEstimate_12 ?_
  refine lv_topi (fun x2 e9 => ?_)
  have h := ct_nm_at h e9
  clear e9
  refine lv_istore (lv' := [(4, .int x2), (3, .int x1), (0, .ref (g.2.1 2)), (1, .ref (g.2.1 1)), (2, .int a2)]) hx hb d_Tr_addEstimate_13 hl (by decide) rfl (fun ls hl => ?_)
  refine lv_aload_n hx hb d_Tr_addEstimate_15 rfl (lv_at hl 2 rfl) ?_
  refine lv_iload_n hx hb d_Tr_addEstimate_16 rfl (lv_at hl 1 rfl) ?_
  refine lv_aload_n hx hb d_Tr_addEstimate_17 rfl (lv_at hl 3 rfl) ?_
  refine gf_Tr_58 C0 hw hR d_Tr_addEstimate_18 ?_
  refine lv_iload_n hx hb d_Tr_addEstimate_21 rfl (lv_at hl 4 rfl) ?_
  obtain ⟨hg22, h⟩ := ct_gd_some h
  refine ct_ldA (k := 2) C0 hw hR (by decide) (ct_inR_vp hg22) d_Tr_addEstimate_22 ?_
  refine lv_iload hx hb d_Tr_addEstimate_23 (lv_at hl 0 rfl) ?_
  obtain ⟨s3, ho, h⟩ := ct_ob_some h
  refine ct_callVv C0 hw hl.1 (q0 := 2) (hR.1 2 (by decide)) rfl (ct_giV wd_323 wd_325 sel_Tr_add wd_4 wd_326) (fun sz => s_Tr_add l g ws sz hR.rf ho) (nA := 3) (rm := rm_Tr_add) (by decide +kernel) rfl ⟨rfl, rfl⟩ (by decide) (by decide) (As := [.int x1, .int (cs_A s 2 a2.toNatClampNeg), .int x2]) (rest := []) rfl (Nat.le_of_ble_eq_true rfl) d_Tr_addEstimate_25 (fun ws1 H locs hw hp => ?_)
  have hR := hR.trans hp
  clear hp
  generalize ws1 = ws at hw hR
  refine lv_aload_n hx hb d_Tr_addEstimate_28 rfl (lv_at hl 2 rfl) ?_
  refine lv_iload_n hx hb d_Tr_addEstimate_29 rfl (lv_at hl 1 rfl) ?_
  refine lv_aload_n hx hb d_Tr_addEstimate_30 rfl (lv_at hl 3 rfl) ?_
  refine lv_iload_n hx hb d_Tr_addEstimate_31 rfl (lv_at hl 4 rfl) ?_
  obtain ⟨x4, ho, h⟩ := ct_ob_some h
  refine ct_callVi C0 hw hl.1 (q0 := 1) (hR.1 1 (by decide)) rfl (ct_giV wd_331 wd_332 wd_333 wd_2 wd_334) (fun sz => s_Le_replacedIn l g ws sz hR.rf ho) (nA := 1) (rm := rm_Le_replacedIn) (by decide +kernel) rfl ⟨rfl, rfl⟩ (by decide) (by decide) (As := [.int a2]) (rest := [.int x1, .ref (g.2.1 2)]) rfl (Nat.le_of_ble_eq_true rfl) d_Tr_addEstimate_32 (fun ws1 H locs hw hp => ?_)
  rw [hp] at hw
  clear hp
  refine lv_iload hx hb d_Tr_addEstimate_35 (lv_at hl 0 rfl) ?_
  refine lv_ineg hx hb d_Tr_addEstimate_37 ?_
  obtain ⟨s5, ho, h⟩ := ct_ob_some h
  refine ct_callVv C0 hw hl.1 (q0 := 2) (hR.1 2 (by decide)) rfl (ct_giV wd_323 wd_325 sel_Tr_add wd_4 wd_326) (fun sz => s_Tr_add l g ws sz hR.rf ho) (nA := 3) (rm := rm_Tr_add) (by decide +kernel) rfl ⟨rfl, rfl⟩ (by decide) (by decide) (As := [.int x1, .int x4, .int (-x2)]) (rest := []) rfl (Nat.le_of_ble_eq_true rfl) d_Tr_addEstimate_38 (fun ws1 H locs hw hp => ?_)
  have hR := hR.trans hp
  clear hp
  generalize ws1 = ws at hw hR
  obtain rfl := Option.some.inj h
  exact hret hw hR d_Tr_addEstimate_41

theorem d_Tr_accumulate_0 : decode c_Tr_accumulate 0 = .ok (.iconst 0, 1) := by decide +kernel
theorem d_Tr_accumulate_1 : decode c_Tr_accumulate 1 = .ok (.istore_n 1, 1) := by decide +kernel
theorem d_Tr_accumulate_2 : decode c_Tr_accumulate 2 = .ok (.iload_n 1, 1) := by decide +kernel
theorem d_Tr_accumulate_3 : decode c_Tr_accumulate 3 = .ok (.aload_n 0, 1) := by decide +kernel
theorem d_Tr_accumulate_4 : decode c_Tr_accumulate 4 = .ok (.getfield 31, 3) := by decide +kernel
theorem d_Tr_accumulate_7 : decode c_Tr_accumulate 7 = .ok (.if_icmp .ge 48, 3) := by decide +kernel
theorem d_Tr_accumulate_10 : decode c_Tr_accumulate 10 = .ok (.iconst 1, 1) := by decide +kernel
theorem d_Tr_accumulate_11 : decode c_Tr_accumulate 11 = .ok (.istore_n 2, 1) := by decide +kernel
theorem d_Tr_accumulate_12 : decode c_Tr_accumulate 12 = .ok (.iload_n 2, 1) := by decide +kernel
theorem d_Tr_accumulate_13 : decode c_Tr_accumulate 13 = .ok (.aload_n 0, 1) := by decide +kernel
theorem d_Tr_accumulate_14 : decode c_Tr_accumulate 14 = .ok (.getfield 31, 3) := by decide +kernel
theorem d_Tr_accumulate_17 : decode c_Tr_accumulate 17 = .ok (.iload_n 1, 1) := by decide +kernel
theorem d_Tr_accumulate_18 : decode c_Tr_accumulate 18 = .ok (.isub, 1) := by decide +kernel
theorem d_Tr_accumulate_19 : decode c_Tr_accumulate 19 = .ok (.if_icmp .ge 30, 3) := by decide +kernel
theorem d_Tr_accumulate_22 : decode c_Tr_accumulate 22 = .ok (.aload_n 0, 1) := by decide +kernel
theorem d_Tr_accumulate_23 : decode c_Tr_accumulate 23 = .ok (.getfield 11, 3) := by decide +kernel
theorem d_Tr_accumulate_26 : decode c_Tr_accumulate 26 = .ok (.iload_n 1, 1) := by decide +kernel
theorem d_Tr_accumulate_27 : decode c_Tr_accumulate 27 = .ok (.aaload, 1) := by decide +kernel
theorem d_Tr_accumulate_28 : decode c_Tr_accumulate 28 = .ok (.iload_n 2, 1) := by decide +kernel
theorem d_Tr_accumulate_29 : decode c_Tr_accumulate 29 = .ok (.dup2, 1) := by decide +kernel
theorem d_Tr_accumulate_30 : decode c_Tr_accumulate 30 = .ok (.iaload, 1) := by decide +kernel
theorem d_Tr_accumulate_31 : decode c_Tr_accumulate 31 = .ok (.aload_n 0, 1) := by decide +kernel
theorem d_Tr_accumulate_32 : decode c_Tr_accumulate 32 = .ok (.getfield 11, 3) := by decide +kernel
theorem d_Tr_accumulate_35 : decode c_Tr_accumulate 35 = .ok (.iload_n 1, 1) := by decide +kernel
theorem d_Tr_accumulate_36 : decode c_Tr_accumulate 36 = .ok (.aaload, 1) := by decide +kernel
theorem d_Tr_accumulate_37 : decode c_Tr_accumulate 37 = .ok (.iload_n 2, 1) := by decide +kernel
theorem d_Tr_accumulate_38 : decode c_Tr_accumulate 38 = .ok (.iconst 1, 1) := by decide +kernel
theorem d_Tr_accumulate_39 : decode c_Tr_accumulate 39 = .ok (.isub, 1) := by decide +kernel
theorem d_Tr_accumulate_40 : decode c_Tr_accumulate 40 = .ok (.iaload, 1) := by decide +kernel
theorem d_Tr_accumulate_41 : decode c_Tr_accumulate 41 = .ok (.iadd, 1) := by decide +kernel
theorem d_Tr_accumulate_42 : decode c_Tr_accumulate 42 = .ok (.iastore, 1) := by decide +kernel
theorem d_Tr_accumulate_43 : decode c_Tr_accumulate 43 = .ok (.iinc 2 1, 3) := by decide +kernel
theorem d_Tr_accumulate_46 : decode c_Tr_accumulate 46 = .ok (.goto (-34), 3) := by decide +kernel
theorem d_Tr_accumulate_49 : decode c_Tr_accumulate 49 = .ok (.iinc 1 1, 3) := by decide +kernel
theorem d_Tr_accumulate_52 : decode c_Tr_accumulate 52 = .ok (.goto (-50), 3) := by decide +kernel
theorem d_Tr_accumulate_55 : decode c_Tr_accumulate 55 = .ok (.return_, 1) := by decide +kernel
set_option maxHeartbeats 4000000 in
set_option maxRecDepth 100000 in
theorem s_Tr_accumulate (l : Launch) (g : Gx) (ws0 : va_W) (sz : Nat) {s : CS} {res : CS} (hR : cs_Rel g ws0 ws0 s) (h : fn_Tr_accumulate s = some res) : ct_MV l y_Tr_accumulate c_Tr_accumulate 3 none rm_Tr_accumulate g ws0 sz [.ref (g.2.1 2)]  (fun u => cs_Rel g ws0 u res) := by
  refine ct_startv (by decide +kernel) (Nat.le_of_ble_eq_true rfl) (fun p e sv m args below meth c ls Q A H locs C0 hret hl hw => ?_)
  have hx := C0.1
  have hb := C0.2.1
  have hown := C0.2.2.2.1
  have hts := C0.2.2.2.2.1
  have hl : lv_has ls 3 [(0, .ref (g.2.1 2))] := hl
  have L2 : ∀ (n2 : Nat) (ws : va_W) (H : Heap) (locs : List Loc) (ls : Array Slot) (s : CS) (v1 : Int32), ct_Wd g A sv ws H locs → cs_Rel g ws0 ws s → lv_has ls 3 [(0, .ref (g.2.1 2)), (1, .int v1)] → bk_Tr_accumulate_2 n2 s v1 = some res → W p l e rm_Tr_accumulate sv m args below meth c H locs 0 0 Q (F0 m 2 ls []) := by
    intro n2
    induction n2 with
    | zero =>
      intro ws H locs ls s v1 hw hR hl h
      exact absurd h (by simp [bk_Tr_accumulate_2])
    | succ n2 ih2 =>
      have L12 : ∀ (n12 : Nat) (ws : va_W) (H : Heap) (locs : List Loc) (ls : Array Slot) (s : CS) (v1 : Int32) (v2 : Int32), ct_Wd g A sv ws H locs → cs_Rel g ws0 ws s → lv_has ls 3 [(0, .ref (g.2.1 2)), (1, .int v1), (2, .int v2)] → bk_Tr_accumulate_12 (bk_Tr_accumulate_2 n2) n12 s v1 v2 = some res → W p l e rm_Tr_accumulate sv m args below meth c H locs 0 0 Q (F0 m 12 ls []) := by
        intro n12
        induction n12 with
        | zero =>
          intro ws H locs ls s v1 v2 hw hR hl h
          exact absurd h (by simp [bk_Tr_accumulate_12])
        | succ n12 ih12 =>
          intro ws H locs ls s v1 v2 hw hR hl h
          have h : bk_Tr_accumulate_12_o (bk_Tr_accumulate_2 n2) (bk_Tr_accumulate_12 (bk_Tr_accumulate_2 n2) n12) s v1 v2 = some res := h
          unfold bk_Tr_accumulate_12_o at h
          refine lv_iload_n hx hb d_Tr_accumulate_12 rfl (lv_at hl 2 rfl) ?_
          refine lv_aload_n hx hb d_Tr_accumulate_13 rfl (lv_at hl 0 rfl) ?_
          refine gf_Tr_31 C0 hw hR d_Tr_accumulate_14 ?_
          refine lv_iload_n hx hb d_Tr_accumulate_17 rfl (lv_at hl 1 rfl) ?_
          refine lv_isub hx hb d_Tr_accumulate_18 ?_
          refine lv_icmp_ge hx hb (tgt := 49) d_Tr_accumulate_19 (by decide) (fun hc9 => ?_) (fun hc9 => ?_)
          · rw [if_pos hc9] at h
            refine lv_iinc (v := v1 + 1) (k := 1) (lv' := [(1, .int (v1 + 1)), (0, .ref (g.2.1 2)), (2, .int v2)]) hx hb d_Tr_accumulate_49 hl rfl rfl (by decide) rfl (fun ls hl => ?_)
            refine lv_goto hx hb (tgt := 2) d_Tr_accumulate_52 (by decide) ?_
            exact ih2 ws H locs ls s (v1 + 1) hw hR (lv_sub hl [1, 0] rfl) h
          · rw [if_neg hc9] at h
            refine lv_aload_n hx hb d_Tr_accumulate_22 rfl (lv_at hl 0 rfl) ?_
            refine gf_Tr_11 C0 hw hR d_Tr_accumulate_23 ?_
            refine lv_iload_n hx hb d_Tr_accumulate_26 rfl (lv_at hl 1 rfl) ?_
            obtain ⟨hg27, h⟩ := ct_gd_some h
            refine ct_ldoc C0 hw hR (ct_inR_vp hg27) d_Tr_accumulate_27 ?_
            refine lv_iload_n hx hb d_Tr_accumulate_28 rfl (lv_at hl 2 rfl) ?_
            refine lv_dup2_11 hx hb d_Tr_accumulate_29 rfl rfl ?_
            obtain ⟨hg30, h⟩ := ct_gd_some h
            refine ct_ldrw C0 hw hR (ct_inR_lt hg27) (ct_inR_vp hg30) d_Tr_accumulate_30 ?_
            refine lv_aload_n hx hb d_Tr_accumulate_31 rfl (lv_at hl 0 rfl) ?_
            refine gf_Tr_11 C0 hw hR d_Tr_accumulate_32 ?_
            refine lv_iload_n hx hb d_Tr_accumulate_35 rfl (lv_at hl 1 rfl) ?_
            obtain ⟨hg36, h⟩ := ct_gd_some h
            refine ct_ldoc C0 hw hR (ct_inR_vp hg36) d_Tr_accumulate_36 ?_
            refine lv_iload_n hx hb d_Tr_accumulate_37 rfl (lv_at hl 2 rfl) ?_
            refine lv_iconst (v := 1) hx hb d_Tr_accumulate_38 (by decide) ?_
            refine lv_isub hx hb d_Tr_accumulate_39 ?_
            obtain ⟨hg40, h⟩ := ct_gd_some h
            refine ct_ldrw C0 hw hR (ct_inR_lt hg36) (ct_inR_vp hg40) d_Tr_accumulate_40 ?_
            refine lv_iadd hx hb d_Tr_accumulate_41 ?_
            obtain ⟨hg42, h⟩ := ct_gd_some h
            refine ct_strw C0 hw hR (ct_inR_lt hg27) (ct_inR_vp hg42) d_Tr_accumulate_42 (fun ws H locs hw hR => ?_)
            obtain ⟨s1, es9, h⟩ := ct_nm_ex h
            rw [← es9] at hR
            clear es9
            refine lv_iinc (v := v2 + 1) (k := 2) (lv' := [(2, .int (v2 + 1)), (0, .ref (g.2.1 2)), (1, .int v1)]) hx hb d_Tr_accumulate_43 hl rfl rfl (by decide) rfl (fun ls hl => ?_)
            refine lv_goto hx hb (tgt := 12) d_Tr_accumulate_46 (by decide) ?_
            exact ih12 ws H locs ls s1 v1 (v2 + 1) hw hR (lv_sub hl [1, 2, 0] rfl) h
      intro ws H locs ls s v1 hw hR hl h
      have h : bk_Tr_accumulate_2_o (bk_Tr_accumulate_2 n2) s v1 = some res := h
      unfold bk_Tr_accumulate_2_o at h
      refine lv_iload_n hx hb d_Tr_accumulate_2 rfl (lv_at hl 1 rfl) ?_
      refine lv_aload_n hx hb d_Tr_accumulate_3 rfl (lv_at hl 0 rfl) ?_
      refine gf_Tr_31 C0 hw hR d_Tr_accumulate_4 ?_
      refine lv_icmp_ge hx hb (tgt := 55) d_Tr_accumulate_7 (by decide) (fun hc9 => ?_) (fun hc9 => ?_)
      · rw [if_pos hc9] at h
        obtain rfl := Option.some.inj h
        exact hret hw hR d_Tr_accumulate_55
      · rw [if_neg hc9] at h
        refine lv_iconst (v := 1) hx hb d_Tr_accumulate_10 (by decide) ?_
        refine lv_istore_n (lv' := [(2, .int 1), (0, .ref (g.2.1 2)), (1, .int v1)]) hx hb d_Tr_accumulate_11 rfl hl (by decide) rfl (fun ls hl => ?_)
        exact L12 200 ws H locs ls s v1 1 hw hR (lv_sub hl [1, 2, 0] rfl) h
  unfold fn_Tr_accumulate at h
  obtain ⟨ws, hwe⟩ : ∃ z : va_W, z = ws0 := ⟨_, rfl⟩
  rw [← hwe] at hw
  have hR : cs_Rel g ws0 ws s := by rw [hwe]; exact hR
  clear hwe
  refine lv_iconst (v := 0) hx hb d_Tr_accumulate_0 (by decide) ?_
  refine lv_istore_n (lv' := [(1, .int 0), (0, .ref (g.2.1 2))]) hx hb d_Tr_accumulate_1 rfl hl (by decide) rfl (fun ls hl => ?_)
  exact L2 200 ws H locs ls s 0 hw hR (lv_sub hl [1, 0] rfl) h

theorem d_Tr_fill_0 : decode c_Tr_fill 0 = .ok (.aload_n 0, 1) := by decide +kernel
theorem d_Tr_fill_1 : decode c_Tr_fill 1 = .ok (.invokevirtual 41, 3) := by decide +kernel
theorem d_Tr_fill_4 : decode c_Tr_fill 4 = .ok (.iconst 0, 1) := by decide +kernel
theorem d_Tr_fill_5 : decode c_Tr_fill 5 = .ok (.istore_n 2, 1) := by decide +kernel
theorem d_Tr_fill_6 : decode c_Tr_fill 6 = .ok (.iload_n 2, 1) := by decide +kernel
theorem d_Tr_fill_7 : decode c_Tr_fill 7 = .ok (.aload_n 1, 1) := by decide +kernel
theorem d_Tr_fill_8 : decode c_Tr_fill 8 = .ok (.getfield 44, 3) := by decide +kernel
theorem d_Tr_fill_11 : decode c_Tr_fill 11 = .ok (.if_icmp .ge 71, 3) := by decide +kernel
theorem d_Tr_fill_14 : decode c_Tr_fill 14 = .ok (.aload_n 1, 1) := by decide +kernel
theorem d_Tr_fill_15 : decode c_Tr_fill 15 = .ok (.iload_n 2, 1) := by decide +kernel
theorem d_Tr_fill_16 : decode c_Tr_fill 16 = .ok (.aload_n 0, 1) := by decide +kernel
theorem d_Tr_fill_17 : decode c_Tr_fill 17 = .ok (.getfield 20, 3) := by decide +kernel
theorem d_Tr_fill_20 : decode c_Tr_fill 20 = .ok (.invokevirtual 47, 3) := by decide +kernel
theorem d_Tr_fill_23 : decode c_Tr_fill 23 = .ok (.ifCond .ne 6, 3) := by decide +kernel
theorem d_Tr_fill_26 : decode c_Tr_fill 26 = .ok (.goto 50, 3) := by decide +kernel
theorem d_Tr_fill_29 : decode c_Tr_fill 29 = .ok (.aload_n 1, 1) := by decide +kernel
theorem d_Tr_fill_30 : decode c_Tr_fill 30 = .ok (.getfield 51, 3) := by decide +kernel
theorem d_Tr_fill_33 : decode c_Tr_fill 33 = .ok (.iload_n 2, 1) := by decide +kernel
theorem d_Tr_fill_34 : decode c_Tr_fill 34 = .ok (.baload, 1) := by decide +kernel
theorem d_Tr_fill_35 : decode c_Tr_fill 35 = .ok (.ifCond .ne 28, 3) := by decide +kernel
theorem d_Tr_fill_38 : decode c_Tr_fill 38 = .ok (.aload_n 0, 1) := by decide +kernel
theorem d_Tr_fill_39 : decode c_Tr_fill 39 = .ok (.aload_n 1, 1) := by decide +kernel
theorem d_Tr_fill_40 : decode c_Tr_fill 40 = .ok (.getfield 54, 3) := by decide +kernel
theorem d_Tr_fill_43 : decode c_Tr_fill 43 = .ok (.iload_n 2, 1) := by decide +kernel
theorem d_Tr_fill_44 : decode c_Tr_fill 44 = .ok (.iaload, 1) := by decide +kernel
theorem d_Tr_fill_45 : decode c_Tr_fill 45 = .ok (.aload_n 1, 1) := by decide +kernel
theorem d_Tr_fill_46 : decode c_Tr_fill 46 = .ok (.getfield 58, 3) := by decide +kernel
theorem d_Tr_fill_49 : decode c_Tr_fill 49 = .ok (.iload_n 2, 1) := by decide +kernel
theorem d_Tr_fill_50 : decode c_Tr_fill 50 = .ok (.iaload, 1) := by decide +kernel
theorem d_Tr_fill_51 : decode c_Tr_fill 51 = .ok (.aload_n 1, 1) := by decide +kernel
theorem d_Tr_fill_52 : decode c_Tr_fill 52 = .ok (.getfield 61, 3) := by decide +kernel
theorem d_Tr_fill_55 : decode c_Tr_fill 55 = .ok (.iload_n 2, 1) := by decide +kernel
theorem d_Tr_fill_56 : decode c_Tr_fill 56 = .ok (.iaload, 1) := by decide +kernel
theorem d_Tr_fill_57 : decode c_Tr_fill 57 = .ok (.invokevirtual 64, 3) := by decide +kernel
theorem d_Tr_fill_60 : decode c_Tr_fill 60 = .ok (.goto 16, 3) := by decide +kernel
theorem d_Tr_fill_63 : decode c_Tr_fill 63 = .ok (.aload_n 0, 1) := by decide +kernel
theorem d_Tr_fill_64 : decode c_Tr_fill 64 = .ok (.getfield 27, 3) := by decide +kernel
theorem d_Tr_fill_67 : decode c_Tr_fill 67 = .ok (.ifCond .eq 9, 3) := by decide +kernel
theorem d_Tr_fill_70 : decode c_Tr_fill 70 = .ok (.aload_n 0, 1) := by decide +kernel
theorem d_Tr_fill_71 : decode c_Tr_fill 71 = .ok (.aload_n 1, 1) := by decide +kernel
theorem d_Tr_fill_72 : decode c_Tr_fill 72 = .ok (.iload_n 2, 1) := by decide +kernel
theorem d_Tr_fill_73 : decode c_Tr_fill 73 = .ok (.invokevirtual 68, 3) := by decide +kernel
theorem d_Tr_fill_76 : decode c_Tr_fill 76 = .ok (.iinc 2 1, 3) := by decide +kernel
theorem d_Tr_fill_79 : decode c_Tr_fill 79 = .ok (.goto (-73), 3) := by decide +kernel
theorem d_Tr_fill_82 : decode c_Tr_fill 82 = .ok (.aload_n 0, 1) := by decide +kernel
theorem d_Tr_fill_83 : decode c_Tr_fill 83 = .ok (.invokevirtual 72, 3) := by decide +kernel
theorem d_Tr_fill_86 : decode c_Tr_fill 86 = .ok (.return_, 1) := by decide +kernel
set_option maxHeartbeats 4000000 in
set_option maxRecDepth 100000 in
theorem s_Tr_fill (l : Launch) (g : Gx) (ws0 : va_W) (sz : Nat) {s : CS} {res : CS} (hR : cs_Rel g ws0 ws0 s) (h : fn_Tr_fill s = some res) : ct_MV l y_Tr_fill c_Tr_fill 3 none rm_Tr_fill g ws0 sz [.ref (g.2.1 2), .ref (g.2.1 1)]  (fun u => cs_Rel g ws0 u res) := by
  refine ct_startv (by decide +kernel) (Nat.le_of_ble_eq_true rfl) (fun p e sv m args below meth c ls Q A H locs C0 hret hl hw => ?_)
  have hx := C0.1
  have hb := C0.2.1
  have hown := C0.2.2.2.1
  have hts := C0.2.2.2.2.1
  have hl : lv_has ls 3 [(0, .ref (g.2.1 2)), (1, .ref (g.2.1 1))] := hl
  have L6 : ∀ (n6 : Nat) (ws : va_W) (H : Heap) (locs : List Loc) (ls : Array Slot) (s : CS) (v2 : Int32), ct_Wd g A sv ws H locs → cs_Rel g ws0 ws s → lv_has ls 3 [(0, .ref (g.2.1 2)), (1, .ref (g.2.1 1)), (2, .int v2)] → bk_Tr_fill_6 n6 s v2 = some res → W p l e rm_Tr_fill sv m args below meth c H locs 0 0 Q (F0 m 6 ls []) := by
    intro n6
    induction n6 with
    | zero =>
      intro ws H locs ls s v2 hw hR hl h
      exact absurd h (by simp [bk_Tr_fill_6])
    | succ n6 ih6 =>
      have J76 : ∀ (ws : va_W) (H : Heap) (locs : List Loc) (ls : Array Slot) (s : CS) (v2 : Int32), ct_Wd g A sv ws H locs → cs_Rel g ws0 ws s → lv_has ls 3 [(0, .ref (g.2.1 2)), (1, .ref (g.2.1 1)), (2, .int v2)] → bk_Tr_fill_76 (bk_Tr_fill_6 n6) s v2 = some res → W p l e rm_Tr_fill sv m args below meth c H locs 0 0 Q (F0 m 76 ls []) := by
        intro ws H locs ls s v2 hw hR hl h
        unfold bk_Tr_fill_76 at h
        refine lv_iinc (v := v2 + 1) (k := 2) (lv' := [(2, .int (v2 + 1)), (0, .ref (g.2.1 2)), (1, .ref (g.2.1 1))]) hx hb d_Tr_fill_76 hl rfl rfl (by decide) rfl (fun ls hl => ?_)
        refine lv_goto hx hb (tgt := 6) d_Tr_fill_79 (by decide) ?_
        exact ih6 ws H locs ls s (v2 + 1) hw hR (lv_sub hl [1, 2, 0] rfl) h
      intro ws H locs ls s v2 hw hR hl h
      have h : bk_Tr_fill_6_o (bk_Tr_fill_6 n6) s v2 = some res := h
      unfold bk_Tr_fill_6_o at h
      refine lv_iload_n hx hb d_Tr_fill_6 rfl (lv_at hl 2 rfl) ?_
      refine lv_aload_n hx hb d_Tr_fill_7 rfl (lv_at hl 1 rfl) ?_
      refine gf_Tr_44 C0 hw hR d_Tr_fill_8 ?_
      refine lv_icmp_ge hx hb (tgt := 82) d_Tr_fill_11 (by decide) (fun hc9 => ?_) (fun hc9 => ?_)
      · rw [if_pos hc9] at h
        refine lv_aload_n hx hb d_Tr_fill_82 rfl (lv_at hl 0 rfl) ?_
        obtain ⟨s1, ho, h⟩ := ct_ob_some h
        refine ct_callVv C0 hw hl.1 (q0 := 2) (hR.1 2 (by decide)) rfl (ct_giV wd_340 wd_342 sel_Tr_accumulate wd_4 wd_343) (fun sz => s_Tr_accumulate l g ws sz hR.rf ho) (nA := 0) (rm := rm_Tr_accumulate) (by decide +kernel) rfl ⟨rfl, rfl⟩ (by decide) (by decide) (As := []) (rest := []) rfl (Nat.le_of_ble_eq_true rfl) d_Tr_fill_83 (fun ws1 H locs hw hp => ?_)
        have hR := hR.trans hp
        clear hp
        generalize ws1 = ws at hw hR
        obtain rfl := Option.some.inj h
        exact hret hw hR d_Tr_fill_86
      · rw [if_neg hc9] at h
        refine lv_aload_n hx hb d_Tr_fill_14 rfl (lv_at hl 1 rfl) ?_
        refine lv_iload_n hx hb d_Tr_fill_15 rfl (lv_at hl 2 rfl) ?_
        refine lv_aload_n hx hb d_Tr_fill_16 rfl (lv_at hl 0 rfl) ?_
        refine gf_Tr_20 C0 hw hR d_Tr_fill_17 ?_
        obtain ⟨x2, ho, h⟩ := ct_ob_some h
        refine ct_callVi C0 hw hl.1 (q0 := 1) (hR.1 1 (by decide)) rfl (ct_giV wd_319 wd_320 wd_321 wd_2 wd_322) (fun sz => s_Le_livesIn l g ws sz hR.rf ho) (nA := 2) (rm := rm_Le_livesIn) (by decide +kernel) rfl ⟨rfl, rfl⟩ (by decide) (by decide) (As := [.int v2, .int (cs_I s 1)]) (rest := []) rfl (Nat.le_of_ble_eq_true rfl) d_Tr_fill_20 (fun ws1 H locs hw hp => ?_)
        rw [hp] at hw
        clear hp
        refine lv_if_ne hx hb (tgt := 29) d_Tr_fill_23 (by decide) (fun hc9 => ?_) (fun hc9 => ?_)
        · rw [if_pos hc9] at h
          refine lv_aload_n hx hb d_Tr_fill_29 rfl (lv_at hl 1 rfl) ?_
          refine gf_Tr_51 C0 hw hR d_Tr_fill_30 ?_
          refine lv_iload_n hx hb d_Tr_fill_33 rfl (lv_at hl 2 rfl) ?_
          obtain ⟨hg34, h⟩ := ct_gd_some h
          refine ct_ldZ (k := 4) C0 hw hR (by decide) (by decide) (ct_inR_vp hg34) d_Tr_fill_34 ?_
          refine lv_if_ne hx hb (tgt := 63) d_Tr_fill_35 (by decide) (fun hc9 => ?_) (fun hc9 => ?_)
          · rw [if_pos hc9] at h
            refine lv_aload_n hx hb d_Tr_fill_63 rfl (lv_at hl 0 rfl) ?_
            refine gf_Tr_27 C0 hw hR d_Tr_fill_64 ?_
            refine lv_if_eq hx hb (tgt := 76) d_Tr_fill_67 (by decide) (fun hc9 => ?_) (fun hc9 => ?_)
            · rw [if_pos hc9] at h
              exact J76 ws H locs ls s v2 hw hR (lv_sub hl [0, 1, 2] rfl) h
            · rw [if_neg hc9] at h
              refine lv_aload_n hx hb d_Tr_fill_70 rfl (lv_at hl 0 rfl) ?_
              refine lv_aload_n hx hb d_Tr_fill_71 rfl (lv_at hl 1 rfl) ?_
              refine lv_iload_n hx hb d_Tr_fill_72 rfl (lv_at hl 2 rfl) ?_
              obtain ⟨s3, ho, h⟩ := ct_ob_some h
              refine ct_callVv C0 hw hl.1 (q0 := 2) (hR.1 2 (by decide)) rfl (ct_giV wd_327 wd_329 sel_Tr_addEstimate wd_4 wd_330) (fun sz => s_Tr_addEstimate l g ws sz hR.rf ho) (nA := 2) (rm := rm_Tr_addEstimate) (by decide +kernel) rfl ⟨rfl, rfl⟩ (by decide) (by decide) (As := [.ref (g.2.1 1), .int v2]) (rest := []) rfl (Nat.le_of_ble_eq_true rfl) d_Tr_fill_73 (fun ws1 H locs hw hp => ?_)
              have hR := hR.trans hp
              clear hp
              generalize ws1 = ws at hw hR
              exact J76 ws H locs ls s3 v2 hw hR (lv_sub hl [0, 1, 2] rfl) h
          · rw [if_neg (fun q => q hc9)] at h
            refine lv_aload_n hx hb d_Tr_fill_38 rfl (lv_at hl 0 rfl) ?_
            refine lv_aload_n hx hb d_Tr_fill_39 rfl (lv_at hl 1 rfl) ?_
            refine gf_Tr_54 C0 hw hR d_Tr_fill_40 ?_
            refine lv_iload_n hx hb d_Tr_fill_43 rfl (lv_at hl 2 rfl) ?_
            obtain ⟨hg44, h⟩ := ct_gd_some h
            refine ct_ldA (k := 1) C0 hw hR (by decide) (ct_inR_vp hg44) d_Tr_fill_44 ?_
            refine lv_aload_n hx hb d_Tr_fill_45 rfl (lv_at hl 1 rfl) ?_
            refine gf_Tr_58 C0 hw hR d_Tr_fill_46 ?_
            refine lv_iload_n hx hb d_Tr_fill_49 rfl (lv_at hl 2 rfl) ?_
            obtain ⟨hg50, h⟩ := ct_gd_some h
            refine ct_ldA (k := 2) C0 hw hR (by decide) (ct_inR_vp hg50) d_Tr_fill_50 ?_
            refine lv_aload_n hx hb d_Tr_fill_51 rfl (lv_at hl 1 rfl) ?_
            refine gf_Tr_61 C0 hw hR d_Tr_fill_52 ?_
            refine lv_iload_n hx hb d_Tr_fill_55 rfl (lv_at hl 2 rfl) ?_
            obtain ⟨hg56, h⟩ := ct_gd_some h
            refine ct_ldA (k := 3) C0 hw hR (by decide) (ct_inR_vp hg56) d_Tr_fill_56 ?_
            obtain ⟨s4, ho, h⟩ := ct_ob_some h
            refine ct_callVv C0 hw hl.1 (q0 := 2) (hR.1 2 (by decide)) rfl (ct_giV wd_323 wd_325 sel_Tr_add wd_4 wd_326) (fun sz => s_Tr_add l g ws sz hR.rf ho) (nA := 3) (rm := rm_Tr_add) (by decide +kernel) rfl ⟨rfl, rfl⟩ (by decide) (by decide) (As := [.int (cs_A s 1 v2.toNatClampNeg), .int (cs_A s 2 v2.toNatClampNeg), .int (cs_A s 3 v2.toNatClampNeg)]) (rest := []) rfl (Nat.le_of_ble_eq_true rfl) d_Tr_fill_57 (fun ws1 H locs hw hp => ?_)
            have hR := hR.trans hp
            clear hp
            generalize ws1 = ws at hw hR
            refine lv_goto hx hb (tgt := 76) d_Tr_fill_60 (by decide) ?_
            exact J76 ws H locs ls s4 v2 hw hR (lv_sub hl [0, 1, 2] rfl) h
        · rw [if_neg (fun q => q hc9)] at h
          refine lv_goto hx hb (tgt := 76) d_Tr_fill_26 (by decide) ?_
          exact J76 ws H locs ls s v2 hw hR (lv_sub hl [0, 1, 2] rfl) h
  unfold fn_Tr_fill at h
  obtain ⟨ws, hwe⟩ : ∃ z : va_W, z = ws0 := ⟨_, rfl⟩
  rw [← hwe] at hw
  have hR : cs_Rel g ws0 ws s := by rw [hwe]; exact hR
  clear hwe
  refine lv_aload_n hx hb d_Tr_fill_0 rfl (lv_at hl 0 rfl) ?_
  obtain ⟨s5, ho, h⟩ := ct_ob_some h
  refine ct_callVv C0 hw hl.1 (q0 := 2) (hR.1 2 (by decide)) rfl (ct_giV wd_315 wd_317 sel_Tr_clear wd_4 wd_318) (fun sz => s_Tr_clear l g ws sz hR.rf ho) (nA := 0) (rm := rm_Tr_clear) (by decide +kernel) rfl ⟨rfl, rfl⟩ (by decide) (by decide) (As := []) (rest := []) rfl (Nat.le_of_ble_eq_true rfl) d_Tr_fill_1 (fun ws1 H locs hw hp => ?_)
  have hR := hR.trans hp
  clear hp
  generalize ws1 = ws at hw hR
  refine lv_iconst (v := 0) hx hb d_Tr_fill_4 (by decide) ?_
  refine lv_istore_n (lv' := [(2, .int 0), (0, .ref (g.2.1 2)), (1, .ref (g.2.1 1))]) hx hb d_Tr_fill_5 rfl hl (by decide) rfl (fun ls hl => ?_)
  exact L6 200 ws H locs ls s5 0 hw hR (lv_sub hl [1, 2, 0] rfl) h

theorem d_CT_enter_0 : decode c_CT_enter 0 = .ok (.iload_n 1, 1) := by decide +kernel
theorem d_CT_enter_1 : decode c_CT_enter 1 = .ok (.invokestatic 76, 3) := by decide +kernel
theorem d_CT_enter_4 : decode c_CT_enter 4 = .ok (.invokestatic 37, 3) := by decide +kernel
theorem d_CT_enter_7 : decode c_CT_enter 7 = .ok (.iload_n 2, 1) := by decide +kernel
theorem d_CT_enter_8 : decode c_CT_enter 8 = .ok (.iload_n 3, 1) := by decide +kernel
theorem d_CT_enter_9 : decode c_CT_enter 9 = .ok (.invokestatic 66, 3) := by decide +kernel
theorem d_CT_enter_12 : decode c_CT_enter 12 = .ok (.aload_n 0, 1) := by decide +kernel
theorem d_CT_enter_13 : decode c_CT_enter 13 = .ok (.getfield 10, 3) := by decide +kernel
theorem d_CT_enter_16 : decode c_CT_enter 16 = .ok (.getfield 179, 3) := by decide +kernel
theorem d_CT_enter_19 : decode c_CT_enter 19 = .ok (.bipush 60, 2) := by decide +kernel
theorem d_CT_enter_21 : decode c_CT_enter 21 = .ok (.if_icmp .lt 13, 3) := by decide +kernel
theorem d_CT_enter_24 : decode c_CT_enter 24 = .ok (.new 196, 3) := by decide +kernel
theorem d_CT_enter_27 : decode c_CT_enter 27 = .ok (.dup, 1) := by decide +kernel
theorem d_CT_enter_28 : decode c_CT_enter 28 = .ok (.ldc 198, 2) := by decide +kernel
theorem d_CT_enter_30 : decode c_CT_enter 30 = .ok (.invokespecial 200, 3) := by decide +kernel
theorem d_CT_enter_33 : decode c_CT_enter 33 = .ok (.athrow, 1) := by decide +kernel
theorem d_CT_enter_34 : decode c_CT_enter 34 = .ok (.aload_n 0, 1) := by decide +kernel
theorem d_CT_enter_35 : decode c_CT_enter 35 = .ok (.getfield 10, 3) := by decide +kernel
theorem d_CT_enter_38 : decode c_CT_enter 38 = .ok (.iload_n 1, 1) := by decide +kernel
theorem d_CT_enter_39 : decode c_CT_enter 39 = .ok (.iload_n 2, 1) := by decide +kernel
theorem d_CT_enter_40 : decode c_CT_enter 40 = .ok (.iload_n 3, 1) := by decide +kernel
theorem d_CT_enter_41 : decode c_CT_enter 41 = .ok (.iload 4, 2) := by decide +kernel
theorem d_CT_enter_43 : decode c_CT_enter 43 = .ok (.iload 5, 2) := by decide +kernel
theorem d_CT_enter_45 : decode c_CT_enter 45 = .ok (.invokevirtual 201, 3) := by decide +kernel
theorem d_CT_enter_48 : decode c_CT_enter 48 = .ok (.istore 6, 2) := by decide +kernel
theorem d_CT_enter_50 : decode c_CT_enter 50 = .ok (.aload_n 0, 1) := by decide +kernel
theorem d_CT_enter_51 : decode c_CT_enter 51 = .ok (.getfield 27, 3) := by decide +kernel
theorem d_CT_enter_54 : decode c_CT_enter 54 = .ok (.aload_n 0, 1) := by decide +kernel
theorem d_CT_enter_55 : decode c_CT_enter 55 = .ok (.getfield 10, 3) := by decide +kernel
theorem d_CT_enter_58 : decode c_CT_enter 58 = .ok (.invokevirtual 56, 3) := by decide +kernel
theorem d_CT_enter_61 : decode c_CT_enter 61 = .ok (.iload 6, 2) := by decide +kernel
theorem d_CT_enter_63 : decode c_CT_enter 63 = .ok (.ireturn, 1) := by decide +kernel
set_option maxHeartbeats 4000000 in
set_option maxRecDepth 100000 in
theorem s_CT_enter (l : Launch) (g : Gx) (ws0 : va_W) (sz : Nat) {s : CS} {a1 : Int32} {a2 : Int32} {a3 : Int32} {a4 : Int32} {a5 : Int32} {res : ((Nat × CS) ⊕ (Int32 × CS))} (hR : cs_Rel g ws0 ws0 s) (hl0 : l.stackTraces = false) (h : fn_CT_enter s a1 a2 a3 a4 a5 = some res) : ct_XI l y_CT_enter c_CT_enter 7 (some .int) rm_CT_enter g ws0 sz [.ref (g.2.1 0), .int a1, .int a2, .int a3, .int a4, .int a5] res 3 18 := by
  refine ct_startXi hl0 (by decide +kernel) rfl (Nat.le_of_ble_eq_true rfl) (fun p e sv m args below meth c ls Q A H locs C0 hret hout hthr hl hw => ?_)
  have hx := C0.1
  have hb := C0.2.1
  have hown := C0.2.2.2.1
  have hts := C0.2.2.2.2.1
  have hl : lv_has ls 7 [(0, .ref (g.2.1 0)), (1, .int a1), (2, .int a2), (3, .int a3), (4, .int a4), (5, .int a5)] := hl
  unfold fn_CT_enter at h
  obtain ⟨ws, hwe⟩ : ∃ z : va_W, z = ws0 := ⟨_, rfl⟩
  rw [← hwe] at hw
  have hR : cs_Rel g ws0 ws s := by rw [hwe]; exact hR
  clear hwe
  refine lv_iload_n hx hb d_CT_enter_0 rfl (lv_at hl 1 rfl) ?_
  obtain ⟨x1, ho, h⟩ := ct_ob_some h
  refine ct_callSi C0 hw hl.1 (ct_giS wd_285 wd_286 wd_1 wd_287) (fun sz => s_CT_isLine l g ws sz ho) (nA := 1) (rm := rm_CT_isLine) (by decide +kernel) rfl ⟨rfl, rfl⟩ (by decide) (by decide) (As := [.int a1]) (rest := []) rfl (Nat.le_of_ble_eq_true rfl) d_CT_enter_1 (fun ws1 H locs hw hp => ?_)
  rw [hp] at hw
  clear hp
  obtain ⟨o2, ho, h⟩ := ct_xb_some h
  refine ct_callSXv C0 hw hl.1 (ct_giS wd_209 wd_210 wd_1 wd_211) (fun sz => s_CT_check l g ws sz hR.rf hl0 ho) (nA := 1) (rm := rm_CT_check) (by decide +kernel) rfl ⟨rfl, rfl⟩ (by decide) (by decide) (As := [.int x1]) (rest := []) rfl (Nat.le_of_ble_eq_true rfl) d_CT_enter_4 (fun E ce q9 ws1 H locs k9 s9 hw ho9 hE hp h1 h2 h3 => ?_) (fun ws1 H locs s9 hw ho9 hp => ?_)
  · subst ho9; obtain rfl := Option.some.inj h; exact hout hw rfl hE (hR.trans hp) h1 h2 h3 (by decide) (by decide)
  subst ho9
  have h := ct_xc_inr h
  have hR := hR.trans hp
  clear hp
  generalize ws1 = ws at hw hR
  generalize s9 = s3 at hR h
  refine lv_iload_n hx hb d_CT_enter_7 rfl (lv_at hl 2 rfl) ?_
  refine lv_iload_n hx hb d_CT_enter_8 rfl (lv_at hl 3 rfl) ?_
  obtain ⟨o4, ho, h⟩ := ct_xb_some h
  refine ct_callSXv C0 hw hl.1 (ct_giS wd_288 wd_289 wd_1 wd_290) (fun sz => s_CT_checkMonths l g ws sz hR.rf hl0 ho) (nA := 2) (rm := rm_CT_checkMonths) (by decide +kernel) rfl ⟨rfl, rfl⟩ (by decide) (by decide) (As := [.int a2, .int a3]) (rest := []) rfl (Nat.le_of_ble_eq_true rfl) d_CT_enter_9 (fun E ce q9 ws1 H locs k9 s9 hw ho9 hE hp h1 h2 h3 => ?_) (fun ws1 H locs s9 hw ho9 hp => ?_)
  · subst ho9; obtain rfl := Option.some.inj h; exact hout hw rfl hE (hR.trans hp) h1 h2 h3 (by decide) (by decide)
  subst ho9
  have h := ct_xc_inr h
  have hR := hR.trans hp
  clear hp
  generalize ws1 = ws at hw hR
  generalize s9 = s5 at hR h
  refine lv_aload_n hx hb d_CT_enter_12 rfl (lv_at hl 0 rfl) ?_
  refine gf_CT_10 C0 hw hR d_CT_enter_13 ?_
  refine gf_CT_179 C0 hw hR d_CT_enter_16 ?_
  refine lv_bipush (v := 60) hx hb d_CT_enter_19 (by decide) ?_
  refine lv_icmp_lt hx hb (tgt := 34) d_CT_enter_21 (by decide) (fun hc9 => ?_) (fun hc9 => ?_)
  · rw [if_pos hc9] at h
    refine lv_aload_n hx hb d_CT_enter_34 rfl (lv_at hl 0 rfl) ?_
    refine gf_CT_10 C0 hw hR d_CT_enter_35 ?_
    refine lv_iload_n hx hb d_CT_enter_38 rfl (lv_at hl 1 rfl) ?_
    refine lv_iload_n hx hb d_CT_enter_39 rfl (lv_at hl 2 rfl) ?_
    refine lv_iload_n hx hb d_CT_enter_40 rfl (lv_at hl 3 rfl) ?_
    refine lv_iload hx hb d_CT_enter_41 (lv_at hl 4 rfl) ?_
    refine lv_iload hx hb d_CT_enter_43 (lv_at hl 5 rfl) ?_
    obtain ⟨x6, s7, ho, h⟩ := ct_ob2_some h
    refine ct_callVi C0 hw hl.1 (q0 := 1) (hR.1 1 (by decide)) rfl (ct_giV wd_307 wd_308 wd_309 wd_2 wd_310) (fun sz => s_Le_append l g ws sz hR.rf ho) (nA := 5) (rm := rm_Le_append) (by decide +kernel) rfl ⟨rfl, rfl⟩ (by decide) (by decide) (As := [.int a1, .int a2, .int a3, .int a4, .int a5]) (rest := []) rfl (Nat.le_of_ble_eq_true rfl) d_CT_enter_45 (fun ws1 H locs hw hp => ?_)
    have hR := hR.trans hp
    clear hp
    generalize ws1 = ws at hw hR
    refine lv_istore (lv' := [(6, .int x6), (0, .ref (g.2.1 0)), (1, .int a1), (2, .int a2), (3, .int a3), (4, .int a4), (5, .int a5)]) hx hb d_CT_enter_48 hl (by decide) rfl (fun ls hl => ?_)
    refine lv_aload_n hx hb d_CT_enter_50 rfl (lv_at hl 1 rfl) ?_
    refine gf_CT_27 C0 hw hR d_CT_enter_51 ?_
    refine lv_aload_n hx hb d_CT_enter_54 rfl (lv_at hl 1 rfl) ?_
    refine gf_CT_10 C0 hw hR d_CT_enter_55 ?_
    obtain ⟨s8, ho, h⟩ := ct_ob_some h
    refine ct_callVv C0 hw hl.1 (q0 := 2) (hR.1 2 (by decide)) rfl (ct_giV wd_311 wd_312 wd_313 wd_4 wd_314) (fun sz => s_Tr_fill l g ws sz hR.rf ho) (nA := 1) (rm := rm_Tr_fill) (by decide +kernel) rfl ⟨rfl, rfl⟩ (by decide) (by decide) (As := [.ref (g.2.1 1)]) (rest := []) rfl (Nat.le_of_ble_eq_true rfl) d_CT_enter_58 (fun ws1 H locs hw hp => ?_)
    have hR := hR.trans hp
    clear hp
    generalize ws1 = ws at hw hR
    refine lv_iload hx hb d_CT_enter_61 (lv_at hl 0 rfl) ?_
    obtain rfl := Option.some.inj h
    exact hret hw ⟨_, rfl, hR⟩ (by decide) (by decide) d_CT_enter_63
  · rw [if_neg hc9] at h
    obtain rfl := Option.some.inj h
    exact hthr (X := "java/lang/IllegalStateException") (k := 2) hl.1 hw hR rfl rfl (by decide +kernel) wd_291 wd_12 (by decide +kernel : (198, "there are 60 entries") ∈ ct_str) ok_thr_200.1 ok_thr_200.2 (ok_thr_200_g _) d_CT_enter_24 d_CT_enter_27 d_CT_enter_28 d_CT_enter_30 d_CT_enter_33 (by decide) (Nat.le_of_ble_eq_true rfl) (by decide) (by decide) (by decide) (by decide)

