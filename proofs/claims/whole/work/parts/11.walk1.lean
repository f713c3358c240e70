theorem d_CT_pay_0 : decode c_CT_pay 0 = .ok (.iload 4, 2) := by decide +kernel
theorem d_CT_pay_2 : decode c_CT_pay 2 = .ok (.sipush (-9999), 3) := by decide +kernel
theorem d_CT_pay_5 : decode c_CT_pay 5 = .ok (.sipush 9999, 3) := by decide +kernel
theorem d_CT_pay_8 : decode c_CT_pay 8 = .ok (.invokestatic 33, 3) := by decide +kernel
theorem d_CT_pay_11 : decode c_CT_pay 11 = .ok (.invokestatic 37, 3) := by decide +kernel
theorem d_CT_pay_14 : decode c_CT_pay 14 = .ok (.aload_n 0, 1) := by decide +kernel
theorem d_CT_pay_15 : decode c_CT_pay 15 = .ok (.iload_n 1, 1) := by decide +kernel
theorem d_CT_pay_16 : decode c_CT_pay 16 = .ok (.iload_n 2, 1) := by decide +kernel
theorem d_CT_pay_17 : decode c_CT_pay 17 = .ok (.iload_n 3, 1) := by decide +kernel
theorem d_CT_pay_18 : decode c_CT_pay 18 = .ok (.iload 4, 2) := by decide +kernel
theorem d_CT_pay_20 : decode c_CT_pay 20 = .ok (.iconst 0, 1) := by decide +kernel
theorem d_CT_pay_21 : decode c_CT_pay 21 = .ok (.invokevirtual 41, 3) := by decide +kernel
theorem d_CT_pay_24 : decode c_CT_pay 24 = .ok (.ireturn, 1) := by decide +kernel
set_option maxHeartbeats 4000000 in
set_option maxRecDepth 100000 in
theorem s_CT_pay (l : Launch) (g : Gx) (ws0 : va_W) (sz : Nat) {s : CS} {a1 : Int32} {a2 : Int32} {a3 : Int32} {a4 : Int32} {res : ((Nat × CS) ⊕ (Int32 × CS))} (hR : cs_Rel g ws0 ws0 s) (hl0 : l.stackTraces = false) (h : fn_CT_pay s a1 a2 a3 a4 = some res) : ct_XI l y_CT_pay c_CT_pay 5 (some .int) rm_CT_pay g ws0 sz [.ref (g.2.1 0), .int a1, .int a2, .int a3, .int a4] res 4 24 := by
  refine ct_startXi hl0 (by decide +kernel) rfl (Nat.le_of_ble_eq_true rfl) (fun p e sv m args below meth c ls Q A H locs C0 hret hout hthr hl hw => ?_)
  have hx := C0.1
  have hb := C0.2.1
  have hown := C0.2.2.2.1
  have hts := C0.2.2.2.2.1
  have hl : lv_has ls 5 [(0, .ref (g.2.1 0)), (1, .int a1), (2, .int a2), (3, .int a3), (4, .int a4)] := hl
  unfold fn_CT_pay at h
  obtain ⟨ws, hwe⟩ : ∃ z : va_W, z = ws0 := ⟨_, rfl⟩
  rw [← hwe] at hw
  have hR : cs_Rel g ws0 ws s := by rw [hwe]; exact hR
  clear hwe
  refine lv_iload hx hb d_CT_pay_0 (lv_at hl 4 rfl) ?_
  refine lv_sipush (v := (-9999)) hx hb d_CT_pay_2 (by decide) ?_
  refine lv_sipush (v := 9999) hx hb d_CT_pay_5 (by decide) ?_
  obtain ⟨x1, ho, h⟩ := ct_ob_some h
  refine ct_callSi C0 hw hl.1 (ct_giS wd_206 wd_207 wd_1 wd_208) (fun sz => s_CT_within l g ws sz ho) (nA := 3) (rm := rm_CT_within) (by decide +kernel) rfl ⟨rfl, rfl⟩ (by decide) (by decide) (As := [.int a4, .int (-9999), .int 9999]) (rest := []) rfl (Nat.le_of_ble_eq_true rfl) d_CT_pay_8 (fun ws1 H locs hw hp => ?_)
  rw [hp] at hw
  clear hp
  obtain ⟨o2, ho, h⟩ := ct_xb_some h
  refine ct_callSXv C0 hw hl.1 (ct_giS wd_209 wd_210 wd_1 wd_211) (fun sz => s_CT_check l g ws sz hR.rf hl0 ho) (nA := 1) (rm := rm_CT_check) (by decide +kernel) rfl ⟨rfl, rfl⟩ (by decide) (by decide) (As := [.int x1]) (rest := []) rfl (Nat.le_of_ble_eq_true rfl) d_CT_pay_11 (fun E ce q9 ws1 H locs k9 s9 hw ho9 hE hp h1 h2 h3 => ?_) (fun ws1 H locs s9 hw ho9 hp => ?_)
  · subst ho9; obtain rfl := Option.some.inj h; exact hout hw rfl hE (hR.trans hp) h1 h2 h3 (by decide) (by decide)
  subst ho9
  have h := ct_xc_inr h
  have hR := hR.trans hp
  clear hp
  generalize ws1 = ws at hw hR
  generalize s9 = s3 at hR h
  refine lv_aload_n hx hb d_CT_pay_14 rfl (lv_at hl 0 rfl) ?_
  refine lv_iload_n hx hb d_CT_pay_15 rfl (lv_at hl 1 rfl) ?_
  refine lv_iload_n hx hb d_CT_pay_16 rfl (lv_at hl 2 rfl) ?_
  refine lv_iload_n hx hb d_CT_pay_17 rfl (lv_at hl 3 rfl) ?_
  refine lv_iload hx hb d_CT_pay_18 (lv_at hl 4 rfl) ?_
  refine lv_iconst (v := 0) hx hb d_CT_pay_20 (by decide) ?_
  obtain ⟨o4, ho, h⟩ := ct_xb2_some h
  refine ct_callVXi C0 hw hl.1 (q0 := 0) (hR.1 0 (by decide)) rfl (ct_giV wd_281 wd_283 sel_CT_enter wd_1 wd_284) (fun sz => s_CT_enter l g ws sz hR.rf hl0 ho) (nA := 5) (rm := rm_CT_enter) (by decide +kernel) rfl ⟨rfl, rfl⟩ (by decide) (by decide) (As := [.int a1, .int a2, .int a3, .int a4, .int 0]) (rest := []) rfl (Nat.le_of_ble_eq_true rfl) d_CT_pay_21 (fun E ce q9 ws1 H locs k9 s9 hw ho9 hE hp h1 h2 h3 => ?_) (fun r9 ws1 H locs s9 hw ho9 hp => ?_)
  · subst ho9; obtain rfl := Option.some.inj h; exact hout hw rfl hE (hR.trans hp) h1 h2 h3 (by decide) (by decide)
  subst ho9
  have h := ct_xc_inr h
  try dsimp only at h
  have hR := hR.trans hp
  clear hp
  generalize ws1 = ws at hw hR
  generalize s9 = s5 at hR h
  generalize r9 = x6 at h ⊢
  obtain rfl := Option.some.inj h
  exact hret hw ⟨_, rfl, hR⟩ (by decide) (by decide) d_CT_pay_24

theorem d_CT_estimate_0 : decode c_CT_estimate 0 = .ok (.iload 4, 2) := by decide +kernel
theorem d_CT_estimate_2 : decode c_CT_estimate 2 = .ok (.iconst 0, 1) := by decide +kernel
theorem d_CT_estimate_3 : decode c_CT_estimate 3 = .ok (.sipush 9999, 3) := by decide +kernel
theorem d_CT_estimate_6 : decode c_CT_estimate 6 = .ok (.invokestatic 33, 3) := by decide +kernel
theorem d_CT_estimate_9 : decode c_CT_estimate 9 = .ok (.invokestatic 37, 3) := by decide +kernel
theorem d_CT_estimate_12 : decode c_CT_estimate 12 = .ok (.aload_n 0, 1) := by decide +kernel
theorem d_CT_estimate_13 : decode c_CT_estimate 13 = .ok (.iload_n 1, 1) := by decide +kernel
theorem d_CT_estimate_14 : decode c_CT_estimate 14 = .ok (.iload_n 2, 1) := by decide +kernel
theorem d_CT_estimate_15 : decode c_CT_estimate 15 = .ok (.iload_n 3, 1) := by decide +kernel
theorem d_CT_estimate_16 : decode c_CT_estimate 16 = .ok (.iload 4, 2) := by decide +kernel
theorem d_CT_estimate_18 : decode c_CT_estimate 18 = .ok (.iconst 1, 1) := by decide +kernel
theorem d_CT_estimate_19 : decode c_CT_estimate 19 = .ok (.invokevirtual 41, 3) := by decide +kernel
theorem d_CT_estimate_22 : decode c_CT_estimate 22 = .ok (.ireturn, 1) := by decide +kernel
set_option maxHeartbeats 4000000 in
set_option maxRecDepth 100000 in
theorem s_CT_estimate (l : Launch) (g : Gx) (ws0 : va_W) (sz : Nat) {s : CS} {a1 : Int32} {a2 : Int32} {a3 : Int32} {a4 : Int32} {res : ((Nat × CS) ⊕ (Int32 × CS))} (hR : cs_Rel g ws0 ws0 s) (hl0 : l.stackTraces = false) (h : fn_CT_estimate s a1 a2 a3 a4 = some res) : ct_XI l y_CT_estimate c_CT_estimate 5 (some .int) rm_CT_estimate g ws0 sz [.ref (g.2.1 0), .int a1, .int a2, .int a3, .int a4] res 4 24 := by
  refine ct_startXi hl0 (by decide +kernel) rfl (Nat.le_of_ble_eq_true rfl) (fun p e sv m args below meth c ls Q A H locs C0 hret hout hthr hl hw => ?_)
  have hx := C0.1
  have hb := C0.2.1
  have hown := C0.2.2.2.1
  have hts := C0.2.2.2.2.1
  have hl : lv_has ls 5 [(0, .ref (g.2.1 0)), (1, .int a1), (2, .int a2), (3, .int a3), (4, .int a4)] := hl
  unfold fn_CT_estimate at h
  obtain ⟨ws, hwe⟩ : ∃ z : va_W, z = ws0 := ⟨_, rfl⟩
  rw [← hwe] at hw
  have hR : cs_Rel g ws0 ws s := by rw [hwe]; exact hR
  clear hwe
  refine lv_iload hx hb d_CT_estimate_0 (lv_at hl 4 rfl) ?_
  refine lv_iconst (v := 0) hx hb d_CT_estimate_2 (by decide) ?_
  refine lv_sipush (v := 9999) hx hb d_CT_estimate_3 (by decide) ?_
  obtain ⟨x1, ho, h⟩ := ct_ob_some h
  refine ct_callSi C0 hw hl.1 (ct_giS wd_206 wd_207 wd_1 wd_208) (fun sz => s_CT_within l g ws sz ho) (nA := 3) (rm := rm_CT_within) (by decide +kernel) rfl ⟨rfl, rfl⟩ (by decide) (by decide) (As := [.int a4, .int 0, .int 9999]) (rest := []) rfl (Nat.le_of_ble_eq_true rfl) d_CT_estimate_6 (fun ws1 H locs hw hp => ?_)
  rw [hp] at hw
  clear hp
  obtain ⟨o2, ho, h⟩ := ct_xb_some h
  refine ct_callSXv C0 hw hl.1 (ct_giS wd_209 wd_210 wd_1 wd_211) (fun sz => s_CT_check l g ws sz hR.rf hl0 ho) (nA := 1) (rm := rm_CT_check) (by decide +kernel) rfl ⟨rfl, rfl⟩ (by decide) (by decide) (As := [.int x1]) (rest := []) rfl (Nat.le_of_ble_eq_true rfl) d_CT_estimate_9 (fun E ce q9 ws1 H locs k9 s9 hw ho9 hE hp h1 h2 h3 => ?_) (fun ws1 H locs s9 hw ho9 hp => ?_)
  · subst ho9; obtain rfl := Option.some.inj h; exact hout hw rfl hE (hR.trans hp) h1 h2 h3 (by decide) (by decide)
  subst ho9
  have h := ct_xc_inr h
  have hR := hR.trans hp
  clear hp
  generalize ws1 = ws at hw hR
  generalize s9 = s3 at hR h
  refine lv_aload_n hx hb d_CT_estimate_12 rfl (lv_at hl 0 rfl) ?_
  refine lv_iload_n hx hb d_CT_estimate_13 rfl (lv_at hl 1 rfl) ?_
  refine lv_iload_n hx hb d_CT_estimate_14 rfl (lv_at hl 2 rfl) ?_
  refine lv_iload_n hx hb d_CT_estimate_15 rfl (lv_at hl 3 rfl) ?_
  refine lv_iload hx hb d_CT_estimate_16 (lv_at hl 4 rfl) ?_
  refine lv_iconst (v := 1) hx hb d_CT_estimate_18 (by decide) ?_
  obtain ⟨o4, ho, h⟩ := ct_xb2_some h
  refine ct_callVXi C0 hw hl.1 (q0 := 0) (hR.1 0 (by decide)) rfl (ct_giV wd_281 wd_283 sel_CT_enter wd_1 wd_284) (fun sz => s_CT_enter l g ws sz hR.rf hl0 ho) (nA := 5) (rm := rm_CT_enter) (by decide +kernel) rfl ⟨rfl, rfl⟩ (by decide) (by decide) (As := [.int a1, .int a2, .int a3, .int a4, .int 1]) (rest := []) rfl (Nat.le_of_ble_eq_true rfl) d_CT_estimate_19 (fun E ce q9 ws1 H locs k9 s9 hw ho9 hE hp h1 h2 h3 => ?_) (fun r9 ws1 H locs s9 hw ho9 hp => ?_)
  · subst ho9; obtain rfl := Option.some.inj h; exact hout hw rfl hE (hR.trans hp) h1 h2 h3 (by decide) (by decide)
  subst ho9
  have h := ct_xc_inr h
  try dsimp only at h
  have hR := hR.trans hp
  clear hp
  generalize ws1 = ws at hw hR
  generalize s9 = s5 at hR h
  generalize r9 = x6 at h ⊢
  obtain rfl := Option.some.inj h
  exact hret hw ⟨_, rfl, hR⟩ (by decide) (by decide) d_CT_estimate_22

theorem d_CT_checkEntry_0 : decode c_CT_checkEntry 0 = .ok (.iload_n 1, 1) := by decide +kernel
theorem d_CT_checkEntry_1 : decode c_CT_checkEntry 1 = .ok (.iconst 0, 1) := by decide +kernel
theorem d_CT_checkEntry_2 : decode c_CT_checkEntry 2 = .ok (.aload_n 0, 1) := by decide +kernel
theorem d_CT_checkEntry_3 : decode c_CT_checkEntry 3 = .ok (.getfield 10, 3) := by decide +kernel
theorem d_CT_checkEntry_6 : decode c_CT_checkEntry 6 = .ok (.getfield 179, 3) := by decide +kernel
theorem d_CT_checkEntry_9 : decode c_CT_checkEntry 9 = .ok (.iconst 1, 1) := by decide +kernel
theorem d_CT_checkEntry_10 : decode c_CT_checkEntry 10 = .ok (.isub, 1) := by decide +kernel
theorem d_CT_checkEntry_11 : decode c_CT_checkEntry 11 = .ok (.invokestatic 33, 3) := by decide +kernel
theorem d_CT_checkEntry_14 : decode c_CT_checkEntry 14 = .ok (.invokestatic 37, 3) := by decide +kernel
theorem d_CT_checkEntry_17 : decode c_CT_checkEntry 17 = .ok (.return_, 1) := by decide +kernel
set_option maxHeartbeats 4000000 in
set_option maxRecDepth 100000 in
theorem s_CT_checkEntry (l : Launch) (g : Gx) (ws0 : va_W) (sz : Nat) {s : CS} {a1 : Int32} {res : ((Nat × CS) ⊕ CS)} (hR : cs_Rel g ws0 ws0 s) (hl0 : l.stackTraces = false) (h : fn_CT_checkEntry s a1 = some res) : ct_XV l y_CT_checkEntry c_CT_checkEntry 2 none rm_CT_checkEntry g ws0 sz [.ref (g.2.1 0), .int a1] res 1 6 := by
  refine ct_startXv hl0 (by decide +kernel) rfl (Nat.le_of_ble_eq_true rfl) (fun p e sv m args below meth c ls Q A H locs C0 hret hout hthr hl hw => ?_)
  have hx := C0.1
  have hb := C0.2.1
  have hown := C0.2.2.2.1
  have hts := C0.2.2.2.2.1
  have hl : lv_has ls 2 [(0, .ref (g.2.1 0)), (1, .int a1)] := hl
  unfold fn_CT_checkEntry at h
  obtain ⟨ws, hwe⟩ : ∃ z : va_W, z = ws0 := ⟨_, rfl⟩
  rw [← hwe] at hw
  have hR : cs_Rel g ws0 ws s := by rw [hwe]; exact hR
  clear hwe
  refine lv_iload_n hx hb d_CT_checkEntry_0 rfl (lv_at hl 1 rfl) ?_
  refine lv_iconst (v := 0) hx hb d_CT_checkEntry_1 (by decide) ?_
  refine lv_aload_n hx hb d_CT_checkEntry_2 rfl (lv_at hl 0 rfl) ?_
  refine gf_CT_10 C0 hw hR d_CT_checkEntry_3 ?_
  refine gf_CT_179 C0 hw hR d_CT_checkEntry_6 ?_
  refine lv_iconst (v := 1) hx hb d_CT_checkEntry_9 (by decide) ?_
  refine lv_isub hx hb d_CT_checkEntry_10 ?_
  obtain ⟨x1, ho, h⟩ := ct_ob_some h
  refine ct_callSi C0 hw hl.1 (ct_giS wd_206 wd_207 wd_1 wd_208) (fun sz => s_CT_within l g ws sz ho) (nA := 3) (rm := rm_CT_within) (by decide +kernel) rfl ⟨rfl, rfl⟩ (by decide) (by decide) (As := [.int a1, .int 0, .int ((cs_I s 0) - 1)]) (rest := []) rfl (Nat.le_of_ble_eq_true rfl) d_CT_checkEntry_11 (fun ws1 H locs hw hp => ?_)
  rw [hp] at hw
  clear hp
  obtain ⟨o2, ho, h⟩ := ct_xb_some h
  refine ct_callSXv C0 hw hl.1 (ct_giS wd_209 wd_210 wd_1 wd_211) (fun sz => s_CT_check l g ws sz hR.rf hl0 ho) (nA := 1) (rm := rm_CT_check) (by decide +kernel) rfl ⟨rfl, rfl⟩ (by decide) (by decide) (As := [.int x1]) (rest := []) rfl (Nat.le_of_ble_eq_true rfl) d_CT_checkEntry_14 (fun E ce q9 ws1 H locs k9 s9 hw ho9 hE hp h1 h2 h3 => ?_) (fun ws1 H locs s9 hw ho9 hp => ?_)
  · subst ho9; obtain rfl := Option.some.inj h; exact hout hw rfl hE (hR.trans hp) h1 h2 h3 (by decide) (by decide)
  subst ho9
  have h := ct_xc_inr h
  have hR := hR.trans hp
  clear hp
  generalize ws1 = ws at hw hR
  generalize s9 = s3 at hR h
  obtain rfl := Option.some.inj h
  exact hret hw ⟨_, rfl, hR⟩ (by decide) (by decide) d_CT_checkEntry_17

theorem d_CT_checkLiving_0 : decode c_CT_checkLiving 0 = .ok (.aload_n 0, 1) := by decide +kernel
theorem d_CT_checkLiving_1 : decode c_CT_checkLiving 1 = .ok (.getfield 10, 3) := by decide +kernel
theorem d_CT_checkLiving_4 : decode c_CT_checkLiving 4 = .ok (.getfield 52, 3) := by decide +kernel
theorem d_CT_checkLiving_7 : decode c_CT_checkLiving 7 = .ok (.iload_n 1, 1) := by decide +kernel
theorem d_CT_checkLiving_8 : decode c_CT_checkLiving 8 = .ok (.baload, 1) := by decide +kernel
theorem d_CT_checkLiving_9 : decode c_CT_checkLiving 9 = .ok (.ifCond .ne 13, 3) := by decide +kernel
theorem d_CT_checkLiving_12 : decode c_CT_checkLiving 12 = .ok (.new 196, 3) := by decide +kernel
theorem d_CT_checkLiving_15 : decode c_CT_checkLiving 15 = .ok (.dup, 1) := by decide +kernel
theorem d_CT_checkLiving_16 : decode c_CT_checkLiving 16 = .ok (.ldc 224, 2) := by decide +kernel
theorem d_CT_checkLiving_18 : decode c_CT_checkLiving 18 = .ok (.invokespecial 200, 3) := by decide +kernel
theorem d_CT_checkLiving_21 : decode c_CT_checkLiving 21 = .ok (.athrow, 1) := by decide +kernel
theorem d_CT_checkLiving_22 : decode c_CT_checkLiving 22 = .ok (.return_, 1) := by decide +kernel
set_option maxHeartbeats 4000000 in
set_option maxRecDepth 100000 in
theorem s_CT_checkLiving (l : Launch) (g : Gx) (ws0 : va_W) (sz : Nat) {s : CS} {a1 : Int32} {res : ((Nat × CS) ⊕ CS)} (hR : cs_Rel g ws0 ws0 s) (hl0 : l.stackTraces = false) (h : fn_CT_checkLiving s a1 = some res) : ct_XV l y_CT_checkLiving c_CT_checkLiving 2 none rm_CT_checkLiving g ws0 sz [.ref (g.2.1 0), .int a1] res 1 6 := by
  refine ct_startXv hl0 (by decide +kernel) rfl (Nat.le_of_ble_eq_true rfl) (fun p e sv m args below meth c ls Q A H locs C0 hret hout hthr hl hw => ?_)
  have hx := C0.1
  have hb := C0.2.1
  have hown := C0.2.2.2.1
  have hts := C0.2.2.2.2.1
  have hl : lv_has ls 2 [(0, .ref (g.2.1 0)), (1, .int a1)] := hl
  unfold fn_CT_checkLiving at h
  obtain ⟨ws, hwe⟩ : ∃ z : va_W, z = ws0 := ⟨_, rfl⟩
  rw [← hwe] at hw
  have hR : cs_Rel g ws0 ws s := by rw [hwe]; exact hR
  clear hwe
  refine lv_aload_n hx hb d_CT_checkLiving_0 rfl (lv_at hl 0 rfl) ?_
  refine gf_CT_10 C0 hw hR d_CT_checkLiving_1 ?_
  refine gf_CT_52 C0 hw hR d_CT_checkLiving_4 ?_
  refine lv_iload_n hx hb d_CT_checkLiving_7 rfl (lv_at hl 1 rfl) ?_
  obtain ⟨hg8, h⟩ := ct_gd_some h
  refine ct_ldZ (k := 5) C0 hw hR (by decide) (by decide) (ct_inR_vp hg8) d_CT_checkLiving_8 ?_
  refine lv_if_ne hx hb (tgt := 22) d_CT_checkLiving_9 (by decide) (fun hc9 => ?_) (fun hc9 => ?_)
  · rw [if_pos hc9] at h
    obtain rfl := Option.some.inj h
    exact hret hw ⟨_, rfl, hR⟩ (by decide) (by decide) d_CT_checkLiving_22
  · rw [if_neg (fun q => q hc9)] at h
    obtain rfl := Option.some.inj h
    exact hthr (X := "java/lang/IllegalStateException") (k := 2) hl.1 hw hR rfl rfl (by decide +kernel) wd_291 wd_12 (by decide +kernel : (224, "the entry is struck") ∈ ct_str) ok_thr_200.1 ok_thr_200.2 (ok_thr_200_g _) d_CT_checkLiving_12 d_CT_checkLiving_15 d_CT_checkLiving_16 d_CT_checkLiving_18 d_CT_checkLiving_21 (by decide) (Nat.le_of_ble_eq_true rfl) (by decide) (by decide) (by decide) (by decide)

theorem d_CT_strike_0 : decode c_CT_strike 0 = .ok (.aload_n 0, 1) := by decide +kernel
theorem d_CT_strike_1 : decode c_CT_strike 1 = .ok (.iload_n 1, 1) := by decide +kernel
theorem d_CT_strike_2 : decode c_CT_strike 2 = .ok (.invokevirtual 45, 3) := by decide +kernel
theorem d_CT_strike_5 : decode c_CT_strike 5 = .ok (.aload_n 0, 1) := by decide +kernel
theorem d_CT_strike_6 : decode c_CT_strike 6 = .ok (.iload_n 1, 1) := by decide +kernel
theorem d_CT_strike_7 : decode c_CT_strike 7 = .ok (.invokevirtual 49, 3) := by decide +kernel
theorem d_CT_strike_10 : decode c_CT_strike 10 = .ok (.aload_n 0, 1) := by decide +kernel
theorem d_CT_strike_11 : decode c_CT_strike 11 = .ok (.getfield 10, 3) := by decide +kernel
theorem d_CT_strike_14 : decode c_CT_strike 14 = .ok (.getfield 52, 3) := by decide +kernel
theorem d_CT_strike_17 : decode c_CT_strike 17 = .ok (.iload_n 1, 1) := by decide +kernel
theorem d_CT_strike_18 : decode c_CT_strike 18 = .ok (.iconst 0, 1) := by decide +kernel
theorem d_CT_strike_19 : decode c_CT_strike 19 = .ok (.bastore, 1) := by decide +kernel
theorem d_CT_strike_20 : decode c_CT_strike 20 = .ok (.aload_n 0, 1) := by decide +kernel
theorem d_CT_strike_21 : decode c_CT_strike 21 = .ok (.getfield 27, 3) := by decide +kernel
theorem d_CT_strike_24 : decode c_CT_strike 24 = .ok (.aload_n 0, 1) := by decide +kernel
theorem d_CT_strike_25 : decode c_CT_strike 25 = .ok (.getfield 10, 3) := by decide +kernel
theorem d_CT_strike_28 : decode c_CT_strike 28 = .ok (.invokevirtual 56, 3) := by decide +kernel
theorem d_CT_strike_31 : decode c_CT_strike 31 = .ok (.aload_n 0, 1) := by decide +kernel
theorem d_CT_strike_32 : decode c_CT_strike 32 = .ok (.getfield 10, 3) := by decide +kernel
theorem d_CT_strike_35 : decode c_CT_strike 35 = .ok (.getfield 62, 3) := by decide +kernel
theorem d_CT_strike_38 : decode c_CT_strike 38 = .ok (.iload_n 1, 1) := by decide +kernel
theorem d_CT_strike_39 : decode c_CT_strike 39 = .ok (.iaload, 1) := by decide +kernel
theorem d_CT_strike_40 : decode c_CT_strike 40 = .ok (.ireturn, 1) := by decide +kernel
set_option maxHeartbeats 4000000 in
set_option maxRecDepth 100000 in
theorem s_CT_strike (l : Launch) (g : Gx) (ws0 : va_W) (sz : Nat) {s : CS} {a1 : Int32} {res : ((Nat × CS) ⊕ (Int32 × CS))} (hR : cs_Rel g ws0 ws0 s) (hl0 : l.stackTraces = false) (h : fn_CT_strike s a1 = some res) : ct_XI l y_CT_strike c_CT_strike 2 (some .int) rm_CT_strike g ws0 sz [.ref (g.2.1 0), .int a1] res 2 12 := by
  refine ct_startXi hl0 (by decide +kernel) rfl (Nat.le_of_ble_eq_true rfl) (fun p e sv m args below meth c ls Q A H locs C0 hret hout hthr hl hw => ?_)
  have hx := C0.1
  have hb := C0.2.1
  have hown := C0.2.2.2.1
  have hts := C0.2.2.2.2.1
  have hl : lv_has ls 2 [(0, .ref (g.2.1 0)), (1, .int a1)] := hl
  unfold fn_CT_strike at h
  obtain ⟨ws, hwe⟩ : ∃ z : va_W, z = ws0 := ⟨_, rfl⟩
  rw [← hwe] at hw
  have hR : cs_Rel g ws0 ws s := by rw [hwe]; exact hR
  clear hwe
  refine lv_aload_n hx hb d_CT_strike_0 rfl (lv_at hl 0 rfl) ?_
  refine lv_iload_n hx hb d_CT_strike_1 rfl (lv_at hl 1 rfl) ?_
  obtain ⟨o1, ho, h⟩ := ct_xb_some h
  refine ct_callVXv C0 hw hl.1 (q0 := 0) (hR.1 0 (by decide)) rfl (ct_giV wd_358 wd_360 sel_CT_checkEntry wd_1 wd_361) (fun sz => s_CT_checkEntry l g ws sz hR.rf hl0 ho) (nA := 1) (rm := rm_CT_checkEntry) (by decide +kernel) rfl ⟨rfl, rfl⟩ (by decide) (by decide) (As := [.int a1]) (rest := []) rfl (Nat.le_of_ble_eq_true rfl) d_CT_strike_2 (fun E ce q9 ws1 H locs k9 s9 hw ho9 hE hp h1 h2 h3 => ?_) (fun ws1 H locs s9 hw ho9 hp => ?_)
  · subst ho9; obtain rfl := Option.some.inj h; exact hout hw rfl hE (hR.trans hp) h1 h2 h3 (by decide) (by decide)
  subst ho9
  have h := ct_xc_inr h
  have hR := hR.trans hp
  clear hp
  generalize ws1 = ws at hw hR
  generalize s9 = s2 at hR h
  refine lv_aload_n hx hb d_CT_strike_5 rfl (lv_at hl 0 rfl) ?_
  refine lv_iload_n hx hb d_CT_strike_6 rfl (lv_at hl 1 rfl) ?_
  obtain ⟨o3, ho, h⟩ := ct_xb_some h
  refine ct_callVXv C0 hw hl.1 (q0 := 0) (hR.1 0 (by decide)) rfl (ct_giV wd_362 wd_364 sel_CT_checkLiving wd_1 wd_365) (fun sz => s_CT_checkLiving l g ws sz hR.rf hl0 ho) (nA := 1) (rm := rm_CT_checkLiving) (by decide +kernel) rfl ⟨rfl, rfl⟩ (by decide) (by decide) (As := [.int a1]) (rest := []) rfl (Nat.le_of_ble_eq_true rfl) d_CT_strike_7 (fun E ce q9 ws1 H locs k9 s9 hw ho9 hE hp h1 h2 h3 => ?_) (fun ws1 H locs s9 hw ho9 hp => ?_)
  · subst ho9; obtain rfl := Option.some.inj h; exact hout hw rfl hE (hR.trans hp) h1 h2 h3 (by decide) (by decide)
  subst ho9
  have h := ct_xc_inr h
  have hR := hR.trans hp
  clear hp
  generalize ws1 = ws at hw hR
  generalize s9 = s4 at hR h
  refine lv_aload_n hx hb d_CT_strike_10 rfl (lv_at hl 0 rfl) ?_
  refine gf_CT_10 C0 hw hR d_CT_strike_11 ?_
  refine gf_CT_52 C0 hw hR d_CT_strike_14 ?_
  refine lv_iload_n hx hb d_CT_strike_17 rfl (lv_at hl 1 rfl) ?_
  refine lv_iconst (v := 0) hx hb d_CT_strike_18 (by decide) ?_
  obtain ⟨hg19, h⟩ := ct_gd_some h
  refine ct_stZ (k := 5) C0 hw hR (by decide) (by decide) (ct_inR_vp hg19) d_CT_strike_19 (fun ws H locs hw hR => ?_)
  obtain ⟨s5, es9, h⟩ := ct_nm_ex h
  rw [← es9] at hR
  clear es9
  refine lv_aload_n hx hb d_CT_strike_20 rfl (lv_at hl 0 rfl) ?_
  refine gf_CT_27 C0 hw hR d_CT_strike_21 ?_
  refine lv_aload_n hx hb d_CT_strike_24 rfl (lv_at hl 0 rfl) ?_
  refine gf_CT_10 C0 hw hR d_CT_strike_25 ?_
  obtain ⟨s6, ho, h⟩ := ct_ob_some h
  refine ct_callVv C0 hw hl.1 (q0 := 2) (hR.1 2 (by decide)) rfl (ct_giV wd_311 wd_312 wd_313 wd_4 wd_314) (fun sz => s_Tr_fill l g ws sz hR.rf ho) (nA := 1) (rm := rm_Tr_fill) (by decide +kernel) rfl ⟨rfl, rfl⟩ (by decide) (by decide) (As := [.ref (g.2.1 1)]) (rest := []) rfl (Nat.le_of_ble_eq_true rfl) d_CT_strike_28 (fun ws1 H locs hw hp => ?_)
  have hR := hR.trans hp
  clear hp
  generalize ws1 = ws at hw hR
  refine lv_aload_n hx hb d_CT_strike_31 rfl (lv_at hl 0 rfl) ?_
  refine gf_CT_10 C0 hw hR d_CT_strike_32 ?_
  refine gf_CT_62 C0 hw hR d_CT_strike_35 ?_
  refine lv_iload_n hx hb d_CT_strike_38 rfl (lv_at hl 1 rfl) ?_
  obtain ⟨hg39, h⟩ := ct_gd_some h
  refine ct_ldA (k := 3) C0 hw hR (by decide) (ct_inR_vp hg39) d_CT_strike_39 ?_
  obtain rfl := Option.some.inj h
  exact hret hw ⟨_, rfl, hR⟩ (by decide) (by decide) d_CT_strike_40

theorem d_CT_move_0 : decode c_CT_move 0 = .ok (.aload_n 0, 1) := by decide +kernel
theorem d_CT_move_1 : decode c_CT_move 1 = .ok (.iload_n 1, 1) := by decide +kernel
theorem d_CT_move_2 : decode c_CT_move 2 = .ok (.invokevirtual 45, 3) := by decide +kernel
theorem d_CT_move_5 : decode c_CT_move 5 = .ok (.iload_n 2, 1) := by decide +kernel
theorem d_CT_move_6 : decode c_CT_move 6 = .ok (.iload_n 3, 1) := by decide +kernel
theorem d_CT_move_7 : decode c_CT_move 7 = .ok (.invokestatic 66, 3) := by decide +kernel
theorem d_CT_move_10 : decode c_CT_move 10 = .ok (.aload_n 0, 1) := by decide +kernel
theorem d_CT_move_11 : decode c_CT_move 11 = .ok (.iload_n 1, 1) := by decide +kernel
theorem d_CT_move_12 : decode c_CT_move 12 = .ok (.invokevirtual 49, 3) := by decide +kernel
theorem d_CT_move_15 : decode c_CT_move 15 = .ok (.aload_n 0, 1) := by decide +kernel
theorem d_CT_move_16 : decode c_CT_move 16 = .ok (.getfield 10, 3) := by decide +kernel
theorem d_CT_move_19 : decode c_CT_move 19 = .ok (.getfield 70, 3) := by decide +kernel
theorem d_CT_move_22 : decode c_CT_move 22 = .ok (.iload_n 1, 1) := by decide +kernel
theorem d_CT_move_23 : decode c_CT_move 23 = .ok (.iload_n 2, 1) := by decide +kernel
theorem d_CT_move_24 : decode c_CT_move 24 = .ok (.iastore, 1) := by decide +kernel
theorem d_CT_move_25 : decode c_CT_move 25 = .ok (.aload_n 0, 1) := by decide +kernel
theorem d_CT_move_26 : decode c_CT_move 26 = .ok (.getfield 10, 3) := by decide +kernel
theorem d_CT_move_29 : decode c_CT_move 29 = .ok (.getfield 73, 3) := by decide +kernel
theorem d_CT_move_32 : decode c_CT_move 32 = .ok (.iload_n 1, 1) := by decide +kernel
theorem d_CT_move_33 : decode c_CT_move 33 = .ok (.iload_n 3, 1) := by decide +kernel
theorem d_CT_move_34 : decode c_CT_move 34 = .ok (.iastore, 1) := by decide +kernel
theorem d_CT_move_35 : decode c_CT_move 35 = .ok (.aload_n 0, 1) := by decide +kernel
theorem d_CT_move_36 : decode c_CT_move 36 = .ok (.getfield 27, 3) := by decide +kernel
theorem d_CT_move_39 : decode c_CT_move 39 = .ok (.aload_n 0, 1) := by decide +kernel
theorem d_CT_move_40 : decode c_CT_move 40 = .ok (.getfield 10, 3) := by decide +kernel
theorem d_CT_move_43 : decode c_CT_move 43 = .ok (.invokevirtual 56, 3) := by decide +kernel
theorem d_CT_move_46 : decode c_CT_move 46 = .ok (.return_, 1) := by decide +kernel
set_option maxHeartbeats 4000000 in
set_option maxRecDepth 100000 in
theorem s_CT_move (l : Launch) (g : Gx) (ws0 : va_W) (sz : Nat) {s : CS} {a1 : Int32} {a2 : Int32} {a3 : Int32} {res : ((Nat × CS) ⊕ CS)} (hR : cs_Rel g ws0 ws0 s) (hl0 : l.stackTraces = false) (h : fn_CT_move s a1 a2 a3 = some res) : ct_XV l y_CT_move c_CT_move 4 none rm_CT_move g ws0 sz [.ref (g.2.1 0), .int a1, .int a2, .int a3] res 3 18 := by
  refine ct_startXv hl0 (by decide +kernel) rfl (Nat.le_of_ble_eq_true rfl) (fun p e sv m args below meth c ls Q A H locs C0 hret hout hthr hl hw => ?_)
  have hx := C0.1
  have hb := C0.2.1
  have hown := C0.2.2.2.1
  have hts := C0.2.2.2.2.1
  have hl : lv_has ls 4 [(0, .ref (g.2.1 0)), (1, .int a1), (2, .int a2), (3, .int a3)] := hl
  unfold fn_CT_move at h
  obtain ⟨ws, hwe⟩ : ∃ z : va_W, z = ws0 := ⟨_, rfl⟩
  rw [← hwe] at hw
  have hR : cs_Rel g ws0 ws s := by rw [hwe]; exact hR
  clear hwe
  refine lv_aload_n hx hb d_CT_move_0 rfl (lv_at hl 0 rfl) ?_
  refine lv_iload_n hx hb d_CT_move_1 rfl (lv_at hl 1 rfl) ?_
  obtain ⟨o1, ho, h⟩ := ct_xb_some h
  refine ct_callVXv C0 hw hl.1 (q0 := 0) (hR.1 0 (by decide)) rfl (ct_giV wd_358 wd_360 sel_CT_checkEntry wd_1 wd_361) (fun sz => s_CT_checkEntry l g ws sz hR.rf hl0 ho) (nA := 1) (rm := rm_CT_checkEntry) (by decide +kernel) rfl ⟨rfl, rfl⟩ (by decide) (by decide) (As := [.int a1]) (rest := []) rfl (Nat.le_of_ble_eq_true rfl) d_CT_move_2 (fun E ce q9 ws1 H locs k9 s9 hw ho9 hE hp h1 h2 h3 => ?_) (fun ws1 H locs s9 hw ho9 hp => ?_)
  · subst ho9; obtain rfl := Option.some.inj h; exact hout hw rfl hE (hR.trans hp) h1 h2 h3 (by decide) (by decide)
  subst ho9
  have h := ct_xc_inr h
  have hR := hR.trans hp
  clear hp
  generalize ws1 = ws at hw hR
  generalize s9 = s2 at hR h
  refine lv_iload_n hx hb d_CT_move_5 rfl (lv_at hl 2 rfl) ?_
  refine lv_iload_n hx hb d_CT_move_6 rfl (lv_at hl 3 rfl) ?_
  obtain ⟨o3, ho, h⟩ := ct_xb_some h
  refine ct_callSXv C0 hw hl.1 (ct_giS wd_288 wd_289 wd_1 wd_290) (fun sz => s_CT_checkMonths l g ws sz hR.rf hl0 ho) (nA := 2) (rm := rm_CT_checkMonths) (by decide +kernel) rfl ⟨rfl, rfl⟩ (by decide) (by decide) (As := [.int a2, .int a3]) (rest := []) rfl (Nat.le_of_ble_eq_true rfl) d_CT_move_7 (fun E ce q9 ws1 H locs k9 s9 hw ho9 hE hp h1 h2 h3 => ?_) (fun ws1 H locs s9 hw ho9 hp => ?_)
  · subst ho9; obtain rfl := Option.some.inj h; exact hout hw rfl hE (hR.trans hp) h1 h2 h3 (by decide) (by decide)
  subst ho9
  have h := ct_xc_inr h
  have hR := hR.trans hp
  clear hp
  generalize ws1 = ws at hw hR
  generalize s9 = s4 at hR h
  refine lv_aload_n hx hb d_CT_move_10 rfl (lv_at hl 0 rfl) ?_
  refine lv_iload_n hx hb d_CT_move_11 rfl (lv_at hl 1 rfl) ?_
  obtain ⟨o5, ho, h⟩ := ct_xb_some h
  refine ct_callVXv C0 hw hl.1 (q0 := 0) (hR.1 0 (by decide)) rfl (ct_giV wd_362 wd_364 sel_CT_checkLiving wd_1 wd_365) (fun sz => s_CT_checkLiving l g ws sz hR.rf hl0 ho) (nA := 1) (rm := rm_CT_checkLiving) (by decide +kernel) rfl ⟨rfl, rfl⟩ (by decide) (by decide) (As := [.int a1]) (rest := []) rfl (Nat.le_of_ble_eq_true rfl) d_CT_move_12 (fun E ce q9 ws1 H locs k9 s9 hw ho9 hE hp h1 h2 h3 => ?_) (fun ws1 H locs s9 hw ho9 hp => ?_)
  · subst ho9; obtain rfl := Option.some.inj h; exact hout hw rfl hE (hR.trans hp) h1 h2 h3 (by decide) (by decide)
  subst ho9
  have h := ct_xc_inr h
  have hR := hR.trans hp
  clear hp
  generalize ws1 = ws at hw hR
  generalize s9 = s6 at hR h
  refine lv_aload_n hx hb d_CT_move_15 rfl (lv_at hl 0 rfl) ?_
  refine gf_CT_10 C0 hw hR d_CT_move_16 ?_
  refine gf_CT_70 C0 hw hR d_CT_move_19 ?_
  refine lv_iload_n hx hb d_CT_move_22 rfl (lv_at hl 1 rfl) ?_
  refine lv_iload_n hx hb d_CT_move_23 rfl (lv_at hl 2 rfl) ?_
  obtain ⟨hg24, h⟩ := ct_gd_some h
  refine ct_stA (k := 1) C0 hw hR (by decide) (ct_inR_vp hg24) d_CT_move_24 (fun ws H locs hw hR => ?_)
  obtain ⟨s7, es9, h⟩ := ct_nm_ex h
  rw [← es9] at hR
  clear es9
  refine lv_aload_n hx hb d_CT_move_25 rfl (lv_at hl 0 rfl) ?_
  refine gf_CT_10 C0 hw hR d_CT_move_26 ?_
  refine gf_CT_73 C0 hw hR d_CT_move_29 ?_
  refine lv_iload_n hx hb d_CT_move_32 rfl (lv_at hl 1 rfl) ?_
  refine lv_iload_n hx hb d_CT_move_33 rfl (lv_at hl 3 rfl) ?_
  obtain ⟨hg34, h⟩ := ct_gd_some h
  refine ct_stA (k := 2) C0 hw hR (by decide) (ct_inR_vp hg34) d_CT_move_34 (fun ws H locs hw hR => ?_)
  obtain ⟨s8, es9, h⟩ := ct_nm_ex h
  rw [← es9] at hR
  clear es9
  refine lv_aload_n hx hb d_CT_move_35 rfl (lv_at hl 0 rfl) ?_
  refine gf_CT_27 C0 hw hR d_CT_move_36 ?_
  refine lv_aload_n hx hb d_CT_move_39 rfl (lv_at hl 0 rfl) ?_
  refine gf_CT_10 C0 hw hR d_CT_move_40 ?_
  obtain ⟨s9, ho, h⟩ := ct_ob_some h
  refine ct_callVv C0 hw hl.1 (q0 := 2) (hR.1 2 (by decide)) rfl (ct_giV wd_311 wd_312 wd_313 wd_4 wd_314) (fun sz => s_Tr_fill l g ws sz hR.rf ho) (nA := 1) (rm := rm_Tr_fill) (by decide +kernel) rfl ⟨rfl, rfl⟩ (by decide) (by decide) (As := [.ref (g.2.1 1)]) (rest := []) rfl (Nat.le_of_ble_eq_true rfl) d_CT_move_43 (fun ws1 H locs hw hp => ?_)
  have hR := hR.trans hp
  clear hp
  generalize ws1 = ws at hw hR
  obtain rfl := Option.some.inj h
  exact hret hw ⟨_, rfl, hR⟩ (by decide) (by decide) d_CT_move_46

theorem d_CT_premium_0 : decode c_CT_premium 0 = .ok (.iload_n 1, 1) := by decide +kernel
theorem d_CT_premium_1 : decode c_CT_premium 1 = .ok (.invokestatic 76, 3) := by decide +kernel
theorem d_CT_premium_4 : decode c_CT_premium 4 = .ok (.ifCond .eq 28, 3) := by decide +kernel
theorem d_CT_premium_7 : decode c_CT_premium 7 = .ok (.iload_n 2, 1) := by decide +kernel
theorem d_CT_premium_8 : decode c_CT_premium 8 = .ok (.iconst 0, 1) := by decide +kernel
theorem d_CT_premium_9 : decode c_CT_premium 9 = .ok (.bipush 71, 2) := by decide +kernel
theorem d_CT_premium_11 : decode c_CT_premium 11 = .ok (.invokestatic 33, 3) := by decide +kernel
theorem d_CT_premium_14 : decode c_CT_premium 14 = .ok (.ifCond .eq 18, 3) := by decide +kernel
theorem d_CT_premium_17 : decode c_CT_premium 17 = .ok (.iload_n 3, 1) := by decide +kernel
theorem d_CT_premium_18 : decode c_CT_premium 18 = .ok (.iconst 0, 1) := by decide +kernel
theorem d_CT_premium_19 : decode c_CT_premium 19 = .ok (.sipush 9999, 3) := by decide +kernel
theorem d_CT_premium_22 : decode c_CT_premium 22 = .ok (.invokestatic 33, 3) := by decide +kernel
theorem d_CT_premium_25 : decode c_CT_premium 25 = .ok (.ifCond .eq 7, 3) := by decide +kernel
theorem d_CT_premium_28 : decode c_CT_premium 28 = .ok (.iconst 1, 1) := by decide +kernel
theorem d_CT_premium_29 : decode c_CT_premium 29 = .ok (.goto 4, 3) := by decide +kernel
theorem d_CT_premium_32 : decode c_CT_premium 32 = .ok (.iconst 0, 1) := by decide +kernel
theorem d_CT_premium_33 : decode c_CT_premium 33 = .ok (.invokestatic 37, 3) := by decide +kernel
theorem d_CT_premium_36 : decode c_CT_premium 36 = .ok (.aload_n 0, 1) := by decide +kernel
theorem d_CT_premium_37 : decode c_CT_premium 37 = .ok (.getfield 32, 3) := by decide +kernel
theorem d_CT_premium_40 : decode c_CT_premium 40 = .ok (.getfield 80, 3) := by decide +kernel
theorem d_CT_premium_43 : decode c_CT_premium 43 = .ok (.iload_n 1, 1) := by decide +kernel
theorem d_CT_premium_44 : decode c_CT_premium 44 = .ok (.aaload, 1) := by decide +kernel
theorem d_CT_premium_45 : decode c_CT_premium 45 = .ok (.iload_n 2, 1) := by decide +kernel
theorem d_CT_premium_46 : decode c_CT_premium 46 = .ok (.iload_n 3, 1) := by decide +kernel
theorem d_CT_premium_47 : decode c_CT_premium 47 = .ok (.iastore, 1) := by decide +kernel
theorem d_CT_premium_48 : decode c_CT_premium 48 = .ok (.return_, 1) := by decide +kernel
set_option maxHeartbeats 4000000 in
set_option maxRecDepth 100000 in
theorem s_CT_premium (l : Launch) (g : Gx) (ws0 : va_W) (sz : Nat) {s : CS} {a1 : Int32} {a2 : Int32} {a3 : Int32} {res : ((Nat × CS) ⊕ CS)} (hR : cs_Rel g ws0 ws0 s) (hl0 : l.stackTraces = false) (h : fn_CT_premium s a1 a2 a3 = some res) : ct_XV l y_CT_premium c_CT_premium 4 none rm_CT_premium g ws0 sz [.ref (g.2.1 0), .int a1, .int a2, .int a3] res 1 6 := by
  refine ct_startXv hl0 (by decide +kernel) rfl (Nat.le_of_ble_eq_true rfl) (fun p e sv m args below meth c ls Q A H locs C0 hret hout hthr hl hw => ?_)
  have hx := C0.1
  have hb := C0.2.1
  have hown := C0.2.2.2.1
  have hts := C0.2.2.2.2.1
  have hl : lv_has ls 4 [(0, .ref (g.2.1 0)), (1, .int a1), (2, .int a2), (3, .int a3)] := hl
  have J33 : ∀ (ws : va_W) (H : Heap) (locs : List Loc) (ls : Array Slot) (s : CS) (t0 : Int32), ct_Wd g A sv ws H locs → cs_Rel g ws0 ws s → lv_has ls 4 [(0, .ref (g.2.1 0)), (1, .int a1), (2, .int a2), (3, .int a3)] → bk_CT_premium_33 a1 a2 a3 s t0 = some res → W p l e rm_CT_premium sv m args below meth c H locs 0 0 Q (F0 m 33 ls [.int t0]) := by
    intro ws H locs ls s t0 hw hR hl h
    unfold bk_CT_premium_33 at h
    obtain ⟨o1, ho, h⟩ := ct_xb_some h
    refine ct_callSXv C0 hw hl.1 (ct_giS wd_209 wd_210 wd_1 wd_211) (fun sz => s_CT_check l g ws sz hR.rf hl0 ho) (nA := 1) (rm := rm_CT_check) (by decide +kernel) rfl ⟨rfl, rfl⟩ (by decide) (by decide) (As := [.int t0]) (rest := []) rfl (Nat.le_of_ble_eq_true rfl) d_CT_premium_33 (fun E ce q9 ws1 H locs k9 s9 hw ho9 hE hp h1 h2 h3 => ?_) (fun ws1 H locs s9 hw ho9 hp => ?_)
    · subst ho9; obtain rfl := Option.some.inj h; exact hout hw rfl hE (hR.trans hp) h1 h2 h3 (by decide) (by decide)
    subst ho9
    have h := ct_xc_inr h
    have hR := hR.trans hp
    clear hp
    generalize ws1 = ws at hw hR
    generalize s9 = s2 at hR h
    refine lv_aload_n hx hb d_CT_premium_36 rfl (lv_at hl 0 rfl) ?_
    refine gf_CT_32 C0 hw hR d_CT_premium_37 ?_
    refine gf_CT_80 C0 hw hR d_CT_premium_40 ?_
    refine lv_iload_n hx hb d_CT_premium_43 rfl (lv_at hl 1 rfl) ?_
    obtain ⟨hg44, h⟩ := ct_gd_some h
    refine ct_ldop C0 hw hR (ct_inR_vp hg44) d_CT_premium_44 ?_
    refine lv_iload_n hx hb d_CT_premium_45 rfl (lv_at hl 2 rfl) ?_
    refine lv_iload_n hx hb d_CT_premium_46 rfl (lv_at hl 3 rfl) ?_
    obtain ⟨hg47, h⟩ := ct_gd_some h
    refine ct_stpm C0 hw hR (ct_inR_lt hg44) (ct_inR_vp hg47) d_CT_premium_47 (fun ws H locs hw hR => ?_)
    obtain ⟨s3, es9, h⟩ := ct_nm_ex h
    rw [← es9] at hR
    clear es9
    obtain rfl := Option.some.inj h
    exact hret hw ⟨_, rfl, hR⟩ (by decide) (by decide) d_CT_premium_48
  unfold fn_CT_premium at h
  obtain ⟨ws, hwe⟩ : ∃ z : va_W, z = ws0 := ⟨_, rfl⟩
  rw [← hwe] at hw
  have hR : cs_Rel g ws0 ws s := by rw [hwe]; exact hR
  clear hwe
  refine lv_iload_n hx hb d_CT_premium_0 rfl (lv_at hl 1 rfl) ?_
  obtain ⟨x4, ho, h⟩ := ct_ob_some h
  refine ct_callSi C0 hw hl.1 (ct_giS wd_285 wd_286 wd_1 wd_287) (fun sz => s_CT_isLine l g ws sz ho) (nA := 1) (rm := rm_CT_isLine) (by decide +kernel) rfl ⟨rfl, rfl⟩ (by decide) (by decide) (As := [.int a1]) (rest := []) rfl (Nat.le_of_ble_eq_true rfl) d_CT_premium_1 (fun ws1 H locs hw hp => ?_)
  rw [hp] at hw
  clear hp
  refine lv_if_eq hx hb (tgt := 32) d_CT_premium_4 (by decide) (fun hc9 => ?_) (fun hc9 => ?_)
  · rw [if_pos hc9] at h
    refine lv_iconst (v := 0) hx hb d_CT_premium_32 (by decide) ?_
    exact J33 ws H locs ls s 0 hw hR (lv_sub hl [0, 1, 2, 3] rfl) h
  · rw [if_neg hc9] at h
    refine lv_iload_n hx hb d_CT_premium_7 rfl (lv_at hl 2 rfl) ?_
    refine lv_iconst (v := 0) hx hb d_CT_premium_8 (by decide) ?_
    refine lv_bipush (v := 71) hx hb d_CT_premium_9 (by decide) ?_
    obtain ⟨x5, ho, h⟩ := ct_ob_some h
    refine ct_callSi C0 hw hl.1 (ct_giS wd_206 wd_207 wd_1 wd_208) (fun sz => s_CT_within l g ws sz ho) (nA := 3) (rm := rm_CT_within) (by decide +kernel) rfl ⟨rfl, rfl⟩ (by decide) (by decide) (As := [.int a2, .int 0, .int 71]) (rest := []) rfl (Nat.le_of_ble_eq_true rfl) d_CT_premium_11 (fun ws1 H locs hw hp => ?_)
    rw [hp] at hw
    clear hp
    refine lv_if_eq hx hb (tgt := 32) d_CT_premium_14 (by decide) (fun hc9 => ?_) (fun hc9 => ?_)
    · rw [if_pos hc9] at h
      refine lv_iconst (v := 0) hx hb d_CT_premium_32 (by decide) ?_
      exact J33 ws H locs ls s 0 hw hR (lv_sub hl [0, 1, 2, 3] rfl) h
    · rw [if_neg hc9] at h
      refine lv_iload_n hx hb d_CT_premium_17 rfl (lv_at hl 3 rfl) ?_
      refine lv_iconst (v := 0) hx hb d_CT_premium_18 (by decide) ?_
      refine lv_sipush (v := 9999) hx hb d_CT_premium_19 (by decide) ?_
      obtain ⟨x6, ho, h⟩ := ct_ob_some h
      refine ct_callSi C0 hw hl.1 (ct_giS wd_206 wd_207 wd_1 wd_208) (fun sz => s_CT_within l g ws sz ho) (nA := 3) (rm := rm_CT_within) (by decide +kernel) rfl ⟨rfl, rfl⟩ (by decide) (by decide) (As := [.int a3, .int 0, .int 9999]) (rest := []) rfl (Nat.le_of_ble_eq_true rfl) d_CT_premium_22 (fun ws1 H locs hw hp => ?_)
      rw [hp] at hw
      clear hp
      refine lv_if_eq hx hb (tgt := 32) d_CT_premium_25 (by decide) (fun hc9 => ?_) (fun hc9 => ?_)
      · rw [if_pos hc9] at h
        refine lv_iconst (v := 0) hx hb d_CT_premium_32 (by decide) ?_
        exact J33 ws H locs ls s 0 hw hR (lv_sub hl [0, 1, 2, 3] rfl) h
      · rw [if_neg hc9] at h
        refine lv_iconst (v := 1) hx hb d_CT_premium_28 (by decide) ?_
        refine lv_goto hx hb (tgt := 33) d_CT_premium_29 (by decide) ?_
        exact J33 ws H locs ls s 1 hw hR (lv_sub hl [0, 1, 2, 3] rfl) h

theorem d_Fr_divisor_0 : decode c_Fr_divisor 0 = .ok (.lload_n 0, 1) := by decide +kernel
theorem d_Fr_divisor_1 : decode c_Fr_divisor 1 = .ok (.invokestatic 40, 3) := by decide +kernel
theorem d_Fr_divisor_4 : decode c_Fr_divisor 4 = .ok (.lstore 4, 2) := by decide +kernel
theorem d_Fr_divisor_6 : decode c_Fr_divisor 6 = .ok (.lload_n 2, 1) := by decide +kernel
theorem d_Fr_divisor_7 : decode c_Fr_divisor 7 = .ok (.invokestatic 40, 3) := by decide +kernel
theorem d_Fr_divisor_10 : decode c_Fr_divisor 10 = .ok (.lstore 6, 2) := by decide +kernel
theorem d_Fr_divisor_12 : decode c_Fr_divisor 12 = .ok (.iconst 0, 1) := by decide +kernel
theorem d_Fr_divisor_13 : decode c_Fr_divisor 13 = .ok (.istore 8, 2) := by decide +kernel
theorem d_Fr_divisor_15 : decode c_Fr_divisor 15 = .ok (.iload 8, 2) := by decide +kernel
theorem d_Fr_divisor_17 : decode c_Fr_divisor 17 = .ok (.sipush 128, 3) := by decide +kernel
theorem d_Fr_divisor_20 : decode c_Fr_divisor 20 = .ok (.if_icmp .ge 31, 3) := by decide +kernel
theorem d_Fr_divisor_23 : decode c_Fr_divisor 23 = .ok (.lload 6, 2) := by decide +kernel
theorem d_Fr_divisor_25 : decode c_Fr_divisor 25 = .ok (.lconst 0, 1) := by decide +kernel
theorem d_Fr_divisor_26 : decode c_Fr_divisor 26 = .ok (.lcmp, 1) := by decide +kernel
theorem d_Fr_divisor_27 : decode c_Fr_divisor 27 = .ok (.ifCond .eq 24, 3) := by decide +kernel
theorem d_Fr_divisor_30 : decode c_Fr_divisor 30 = .ok (.lload 4, 2) := by decide +kernel
theorem d_Fr_divisor_32 : decode c_Fr_divisor 32 = .ok (.lload 6, 2) := by decide +kernel
theorem d_Fr_divisor_34 : decode c_Fr_divisor 34 = .ok (.lrem, 1) := by decide +kernel
theorem d_Fr_divisor_35 : decode c_Fr_divisor 35 = .ok (.lstore 9, 2) := by decide +kernel
theorem d_Fr_divisor_37 : decode c_Fr_divisor 37 = .ok (.lload 6, 2) := by decide +kernel
theorem d_Fr_divisor_39 : decode c_Fr_divisor 39 = .ok (.lstore 4, 2) := by decide +kernel
theorem d_Fr_divisor_41 : decode c_Fr_divisor 41 = .ok (.lload 9, 2) := by decide +kernel
theorem d_Fr_divisor_43 : decode c_Fr_divisor 43 = .ok (.lstore 6, 2) := by decide +kernel
theorem d_Fr_divisor_45 : decode c_Fr_divisor 45 = .ok (.iinc 8 1, 3) := by decide +kernel
theorem d_Fr_divisor_48 : decode c_Fr_divisor 48 = .ok (.goto (-33), 3) := by decide +kernel
theorem d_Fr_divisor_51 : decode c_Fr_divisor 51 = .ok (.lload 4, 2) := by decide +kernel
theorem d_Fr_divisor_53 : decode c_Fr_divisor 53 = .ok (.lconst 1, 1) := by decide +kernel
theorem d_Fr_divisor_54 : decode c_Fr_divisor 54 = .ok (.invokestatic 47, 3) := by decide +kernel
theorem d_Fr_divisor_57 : decode c_Fr_divisor 57 = .ok (.lreturn, 1) := by decide +kernel
set_option maxHeartbeats 4000000 in
set_option maxRecDepth 100000 in
theorem s_Fr_divisor (l : Launch) (g : Gx) (ws0 : va_W) (sz : Nat) {a1 : Int64} {a2 : Int64} {res : Int64} (h : fn_Fr_divisor a1 a2 = some res) : ct_ML l y_Fr_divisor c_Fr_divisor 11 (some .long) rm_Fr_divisor g ws0 sz [.long a1, .long a2] res (fun u => u = ws0) := by
  refine ct_startl (by decide +kernel) (Nat.le_of_ble_eq_true rfl) (fun p e sv m args below meth c ls Q A H locs C0 hret hl hw => ?_)
  have hx := C0.1
  have hb := C0.2.1
  have hown := C0.2.2.2.1
  have hts := C0.2.2.2.2.1
  have hl : lv_has ls 11 [(0, .long a1), (2, .long a2)] := hl
  have J51 : ∀ (H : Heap) (locs : List Loc) (ls : Array Slot) (v4 : Int64), ct_Wd g A sv ws0 H locs → lv_has ls 11 [(4, .long v4)] → bk_Fr_divisor_51 a1 a2 v4 = some res → W p l e rm_Fr_divisor sv m args below meth c H locs 0 0 Q (F0 m 51 ls []) := by
    intro H locs ls v4 hw hl h
    unfold bk_Fr_divisor_51 at h
    refine lv_lload hx hb d_Fr_divisor_51 (lv_at hl 0 rfl) ?_
    refine lv_lconst (v := 1) hx hb d_Fr_divisor_53 (by decide) ?_
    refine ma_Fr_47 C0 (by rw [C0.2.2.1]; exact hl.1.symm) (by decide) (Nat.le_of_ble_eq_true rfl) d_Fr_divisor_54 ?_
    obtain rfl := Option.some.inj h
    exact hret hw rfl d_Fr_divisor_57
  have L15 : ∀ (n15 : Nat) (H : Heap) (locs : List Loc) (ls : Array Slot) (v4 : Int64) (v6 : Int64) (v8 : Int32), ct_Wd g A sv ws0 H locs → lv_has ls 11 [(4, .long v4), (6, .long v6), (8, .int v8)] → bk_Fr_divisor_15 a1 a2 n15 v4 v6 v8 = some res → W p l e rm_Fr_divisor sv m args below meth c H locs 0 0 Q (F0 m 15 ls []) := by
    intro n15
    induction n15 with
    | zero =>
      intro H locs ls v4 v6 v8 hw hl h
      exact absurd h (by simp [bk_Fr_divisor_15])
    | succ n15 ih15 =>
      intro H locs ls v4 v6 v8 hw hl h
      have h : bk_Fr_divisor_15_o a1 a2 (bk_Fr_divisor_15 a1 a2 n15) v4 v6 v8 = some res := h
      unfold bk_Fr_divisor_15_o at h
      refine lv_iload hx hb d_Fr_divisor_15 (lv_at hl 2 rfl) ?_
      refine lv_sipush (v := 128) hx hb d_Fr_divisor_17 (by decide) ?_
      refine lv_icmp_ge hx hb (tgt := 51) d_Fr_divisor_20 (by decide) (fun hc9 => ?_) (fun hc9 => ?_)
      · rw [if_pos hc9] at h
        exact J51 H locs ls v4 hw (lv_sub hl [0] rfl) h
      · rw [if_neg hc9] at h
        refine lv_lload hx hb d_Fr_divisor_23 (lv_at hl 1 rfl) ?_
        refine lv_lconst (v := 0) hx hb d_Fr_divisor_25 (by decide) ?_
        refine W.lcmp hx hb d_Fr_divisor_26 ?_
        refine lv_if_eq hx hb (tgt := 51) d_Fr_divisor_27 (by decide) (fun hc9 => ?_) (fun hc9 => ?_)
        · rw [if_pos hc9] at h
          exact J51 H locs ls v4 hw (lv_sub hl [0] rfl) h
        · rw [if_neg hc9] at h
          refine lv_lload hx hb d_Fr_divisor_30 (lv_at hl 0 rfl) ?_
          refine lv_lload hx hb d_Fr_divisor_32 (lv_at hl 1 rfl) ?_
          obtain ⟨hg, h⟩ := ct_gd_some h
          refine lv_lrem hx hb d_Fr_divisor_34 (ct_gzL_ne hg) ?_
          refine lv_topl (fun x1 e9 => ?_)
          have h := ct_nm_at h e9
          clear e9
          refine lv_lstore (lv' := [(9, .long x1), (4, .long v4), (6, .long v6), (8, .int v8)]) hx hb d_Fr_divisor_35 hl (by decide) rfl (fun ls hl => ?_)
          refine lv_lload hx hb d_Fr_divisor_37 (lv_at hl 2 rfl) ?_
          refine lv_lstore (lv' := [(4, .long v6), (9, .long x1), (6, .long v6), (8, .int v8)]) hx hb d_Fr_divisor_39 hl (by decide) rfl (fun ls hl => ?_)
          refine lv_lload hx hb d_Fr_divisor_41 (lv_at hl 1 rfl) ?_
          refine lv_lstore (lv' := [(6, .long x1), (4, .long v6), (9, .long x1), (8, .int v8)]) hx hb d_Fr_divisor_43 hl (by decide) rfl (fun ls hl => ?_)
          refine lv_iinc (v := v8 + 1) (k := 3) (lv' := [(8, .int (v8 + 1)), (6, .long x1), (4, .long v6), (9, .long x1)]) hx hb d_Fr_divisor_45 hl rfl rfl (by decide) rfl (fun ls hl => ?_)
          refine lv_goto hx hb (tgt := 15) d_Fr_divisor_48 (by decide) ?_
          exact ih15 H locs ls v6 x1 (v8 + 1) hw (lv_sub hl [2, 1, 0] rfl) h
  unfold fn_Fr_divisor at h
  refine lv_lload_n hx hb d_Fr_divisor_0 rfl (lv_at hl 0 rfl) ?_
  refine ma_Fr_40 C0 (by rw [C0.2.2.1]; exact hl.1.symm) (by decide) (Nat.le_of_ble_eq_true rfl) d_Fr_divisor_1 ?_
  refine lv_topl (fun x2 e9 => ?_)
  have h := ct_nm_at h e9
  clear e9
  refine lv_lstore (lv' := [(4, .long x2), (0, .long a1), (2, .long a2)]) hx hb d_Fr_divisor_4 hl (by decide) rfl (fun ls hl => ?_)
  refine lv_lload_n hx hb d_Fr_divisor_6 rfl (lv_at hl 2 rfl) ?_
  refine ma_Fr_40 C0 (by rw [C0.2.2.1]; exact hl.1.symm) (by decide) (Nat.le_of_ble_eq_true rfl) d_Fr_divisor_7 ?_
  refine lv_topl (fun x3 e9 => ?_)
  have h := ct_nm_at h e9
  clear e9
  refine lv_lstore (lv' := [(6, .long x3), (4, .long x2), (0, .long a1), (2, .long a2)]) hx hb d_Fr_divisor_10 hl (by decide) rfl (fun ls hl => ?_)
  refine lv_iconst (v := 0) hx hb d_Fr_divisor_12 (by decide) ?_
  refine lv_istore (lv' := [(8, .int 0), (6, .long x3), (4, .long x2), (0, .long a1), (2, .long a2)]) hx hb d_Fr_divisor_13 hl (by decide) rfl (fun ls hl => ?_)
  exact L15 200 H locs ls x2 x3 0 hw (lv_sub hl [2, 1, 0] rfl) h

theorem d_Fr_become_0 : decode c_Fr_become 0 = .ok (.lload_n 3, 1) := by decide +kernel
theorem d_Fr_become_1 : decode c_Fr_become 1 = .ok (.lconst 0, 1) := by decide +kernel
theorem d_Fr_become_2 : decode c_Fr_become 2 = .ok (.lcmp, 1) := by decide +kernel
theorem d_Fr_become_3 : decode c_Fr_become 3 = .ok (.ifCond .ne 9, 3) := by decide +kernel
theorem d_Fr_become_6 : decode c_Fr_become 6 = .ok (.aload_n 0, 1) := by decide +kernel
theorem d_Fr_become_7 : decode c_Fr_become 7 = .ok (.iconst 2, 1) := by decide +kernel
theorem d_Fr_become_8 : decode c_Fr_become 8 = .ok (.putfield 15, 3) := by decide +kernel
theorem d_Fr_become_11 : decode c_Fr_become 11 = .ok (.return_, 1) := by decide +kernel
theorem d_Fr_become_12 : decode c_Fr_become 12 = .ok (.lload_n 1, 1) := by decide +kernel
theorem d_Fr_become_13 : decode c_Fr_become 13 = .ok (.lload_n 3, 1) := by decide +kernel
theorem d_Fr_become_14 : decode c_Fr_become 14 = .ok (.invokestatic 22, 3) := by decide +kernel
theorem d_Fr_become_17 : decode c_Fr_become 17 = .ok (.lstore 5, 2) := by decide +kernel
theorem d_Fr_become_19 : decode c_Fr_become 19 = .ok (.lload_n 3, 1) := by decide +kernel
theorem d_Fr_become_20 : decode c_Fr_become 20 = .ok (.lconst 0, 1) := by decide +kernel
theorem d_Fr_become_21 : decode c_Fr_become 21 = .ok (.lcmp, 1) := by decide +kernel
theorem d_Fr_become_22 : decode c_Fr_become 22 = .ok (.ifCond .ge 9, 3) := by decide +kernel
theorem d_Fr_become_25 : decode c_Fr_become 25 = .ok (.lload 5, 2) := by decide +kernel
theorem d_Fr_become_27 : decode c_Fr_become 27 = .ok (.lneg, 1) := by decide +kernel
theorem d_Fr_become_28 : decode c_Fr_become 28 = .ok (.goto 5, 3) := by decide +kernel
theorem d_Fr_become_31 : decode c_Fr_become 31 = .ok (.lload 5, 2) := by decide +kernel
theorem d_Fr_become_33 : decode c_Fr_become 33 = .ok (.lstore 7, 2) := by decide +kernel
theorem d_Fr_become_35 : decode c_Fr_become 35 = .ok (.aload_n 0, 1) := by decide +kernel
theorem d_Fr_become_36 : decode c_Fr_become 36 = .ok (.lload_n 1, 1) := by decide +kernel
theorem d_Fr_become_37 : decode c_Fr_become 37 = .ok (.lload 7, 2) := by decide +kernel
theorem d_Fr_become_39 : decode c_Fr_become 39 = .ok (.ldiv, 1) := by decide +kernel
theorem d_Fr_become_40 : decode c_Fr_become 40 = .ok (.putfield 19, 3) := by decide +kernel
theorem d_Fr_become_43 : decode c_Fr_become 43 = .ok (.aload_n 0, 1) := by decide +kernel
theorem d_Fr_become_44 : decode c_Fr_become 44 = .ok (.lload_n 3, 1) := by decide +kernel
theorem d_Fr_become_45 : decode c_Fr_become 45 = .ok (.lload 7, 2) := by decide +kernel
theorem d_Fr_become_47 : decode c_Fr_become 47 = .ok (.ldiv, 1) := by decide +kernel
theorem d_Fr_become_48 : decode c_Fr_become 48 = .ok (.putfield 9, 3) := by decide +kernel
theorem d_Fr_become_51 : decode c_Fr_become 51 = .ok (.aload_n 0, 1) := by decide +kernel
theorem d_Fr_become_52 : decode c_Fr_become 52 = .ok (.iconst 0, 1) := by decide +kernel
theorem d_Fr_become_53 : decode c_Fr_become 53 = .ok (.putfield 15, 3) := by decide +kernel
theorem d_Fr_become_56 : decode c_Fr_become 56 = .ok (.return_, 1) := by decide +kernel
set_option maxHeartbeats 4000000 in
set_option maxRecDepth 100000 in
theorem s_Fr_become (l : Launch) (g : Gx) (ws0 : va_W) (sz : Nat) {s : CS} {f : Nat} {a1 : Int64} {a2 : Int64} {res : CS} (hR : cs_Rel g ws0 ws0 s) (hf : f < 12) (h : fn_Fr_become s f a1 a2 = some res) : ct_MV l y_Fr_become c_Fr_become 9 none rm_Fr_become g ws0 sz [.ref (g.2.1 (23 + f)), .long a1, .long a2]  (fun u => cs_Rel g ws0 u res) := by
  refine ct_startv (by decide +kernel) (Nat.le_of_ble_eq_true rfl) (fun p e sv m args below meth c ls Q A H locs C0 hret hl hw => ?_)
  have hx := C0.1
  have hb := C0.2.1
  have hown := C0.2.2.2.1
  have hts := C0.2.2.2.2.1
  have hl : lv_has ls 9 [(0, .ref (g.2.1 (23 + f))), (1, .long a1), (3, .long a2)] := hl
  have J33 : ∀ (ws : va_W) (H : Heap) (locs : List Loc) (ls : Array Slot) (s : CS) (t0 : Int64), ct_Wd g A sv ws H locs → cs_Rel g ws0 ws s → lv_has ls 9 [(0, .ref (g.2.1 (23 + f))), (1, .long a1), (3, .long a2)] → bk_Fr_become_33 f a1 a2 s t0 = some res → W p l e rm_Fr_become sv m args below meth c H locs 0 0 Q (F0 m 33 ls [.long t0]) := by
    intro ws H locs ls s t0 hw hR hl h
    unfold bk_Fr_become_33 at h
    refine lv_lstore (lv' := [(7, .long t0), (0, .ref (g.2.1 (23 + f))), (1, .long a1), (3, .long a2)]) hx hb d_Fr_become_33 hl (by decide) rfl (fun ls hl => ?_)
    refine lv_aload_n hx hb d_Fr_become_35 rfl (lv_at hl 1 rfl) ?_
    refine lv_lload_n hx hb d_Fr_become_36 rfl (lv_at hl 2 rfl) ?_
    refine lv_lload hx hb d_Fr_become_37 (lv_at hl 0 rfl) ?_
    obtain ⟨hg, h⟩ := ct_gd_some h
    refine lv_ldiv hx hb d_Fr_become_39 (ct_gzL_ne hg) ?_
    refine pf_Fr_19 (f := f) hf C0 hw hR d_Fr_become_40 (fun ws H locs hw hR => ?_)
    obtain ⟨s1, es9, h⟩ := ct_nm_ex h
    rw [← es9] at hR
    clear es9
    refine lv_aload_n hx hb d_Fr_become_43 rfl (lv_at hl 1 rfl) ?_
    refine lv_lload_n hx hb d_Fr_become_44 rfl (lv_at hl 3 rfl) ?_
    refine lv_lload hx hb d_Fr_become_45 (lv_at hl 0 rfl) ?_
    obtain ⟨hg, h⟩ := ct_gd_some h
    refine lv_ldiv hx hb d_Fr_become_47 (ct_gzL_ne hg) ?_
    refine pf_Fr_9 (f := f) hf C0 hw hR d_Fr_become_48 (fun ws H locs hw hR => ?_)
    obtain ⟨s2, es9, h⟩ := ct_nm_ex h
    rw [← es9] at hR
    clear es9
    refine lv_aload_n hx hb d_Fr_become_51 rfl (lv_at hl 1 rfl) ?_
    refine lv_iconst (v := 0) hx hb d_Fr_become_52 (by decide) ?_
    refine pf_Fr_15 (f := f) hf C0 hw hR d_Fr_become_53 (fun ws H locs hw hR => ?_)
    obtain ⟨s3, es9, h⟩ := ct_nm_ex h
    rw [← es9] at hR
    clear es9
    obtain rfl := Option.some.inj h
    exact hret hw hR d_Fr_become_56
  unfold fn_Fr_become at h
  obtain ⟨ws, hwe⟩ : ∃ z : va_W, z = ws0 := ⟨_, rfl⟩
  rw [← hwe] at hw
  have hR : cs_Rel g ws0 ws s := by rw [hwe]; exact hR
  clear hwe
  refine lv_lload_n hx hb d_Fr_become_0 rfl (lv_at hl 2 rfl) ?_
  refine lv_lconst (v := 0) hx hb d_Fr_become_1 (by decide) ?_
  refine W.lcmp hx hb d_Fr_become_2 ?_
  refine lv_if_ne hx hb (tgt := 12) d_Fr_become_3 (by decide) (fun hc9 => ?_) (fun hc9 => ?_)
  · rw [if_pos hc9] at h
    refine lv_lload_n hx hb d_Fr_become_12 rfl (lv_at hl 1 rfl) ?_
    refine lv_lload_n hx hb d_Fr_become_13 rfl (lv_at hl 2 rfl) ?_
    obtain ⟨x4, ho, h⟩ := ct_ob_some h
    refine ct_callSl C0 hw hl.1 (ct_giS wd_392 wd_393 wd_6 wd_394) (fun sz => s_Fr_divisor l g ws sz ho) (nA := 2) (rm := rm_Fr_divisor) (by decide +kernel) rfl ⟨rfl, rfl⟩ (by decide) (by decide) (As := [.long a1, .long a2]) (rest := []) rfl (Nat.le_of_ble_eq_true rfl) d_Fr_become_14 (fun ws1 H locs hw hp => ?_)
    rw [hp] at hw
    clear hp
    refine lv_lstore (lv' := [(5, .long x4), (0, .ref (g.2.1 (23 + f))), (1, .long a1), (3, .long a2)]) hx hb d_Fr_become_17 hl (by decide) rfl (fun ls hl => ?_)
    refine lv_lload_n hx hb d_Fr_become_19 rfl (lv_at hl 3 rfl) ?_
    refine lv_lconst (v := 0) hx hb d_Fr_become_20 (by decide) ?_
    refine W.lcmp hx hb d_Fr_become_21 ?_
    refine lv_if_ge hx hb (tgt := 31) d_Fr_become_22 (by decide) (fun hc9 => ?_) (fun hc9 => ?_)
    · rw [if_pos hc9] at h
      refine lv_lload hx hb d_Fr_become_31 (lv_at hl 0 rfl) ?_
      exact J33 ws H locs ls s x4 hw hR (lv_sub hl [1, 2, 3] rfl) h
    · rw [if_neg hc9] at h
      refine lv_lload hx hb d_Fr_become_25 (lv_at hl 0 rfl) ?_
      refine lv_lneg hx hb d_Fr_become_27 ?_
      refine lv_goto hx hb (tgt := 33) d_Fr_become_28 (by decide) ?_
      exact J33 ws H locs ls s (-x4) hw hR (lv_sub hl [1, 2, 3] rfl) h
  · rw [if_neg (fun q => q hc9)] at h
    refine lv_aload_n hx hb d_Fr_become_6 rfl (lv_at hl 0 rfl) ?_
    refine lv_iconst (v := 2) hx hb d_Fr_become_7 (by decide) ?_
    refine pf_Fr_15 (f := f) hf C0 hw hR d_Fr_become_8 (fun ws H locs hw hR => ?_)
    obtain ⟨s5, es9, h⟩ := ct_nm_ex h
    rw [← es9] at hR
    clear es9
    obtain rfl := Option.some.inj h
    exact hret hw hR d_Fr_become_11

theorem d_Te_ratioOf_0 : decode c_Te_ratioOf 0 = .ok (.iload_n 1, 1) := by decide +kernel
theorem d_Te_ratioOf_1 : decode c_Te_ratioOf 1 = .ok (.ifCond .ne 10, 3) := by decide +kernel
theorem d_Te_ratioOf_4 : decode c_Te_ratioOf 4 = .ok (.aload_n 0, 1) := by decide +kernel
theorem d_Te_ratioOf_5 : decode c_Te_ratioOf 5 = .ok (.getfield 21, 3) := by decide +kernel
theorem d_Te_ratioOf_8 : decode c_Te_ratioOf 8 = .ok (.goto 7, 3) := by decide +kernel
theorem d_Te_ratioOf_11 : decode c_Te_ratioOf 11 = .ok (.aload_n 0, 1) := by decide +kernel
theorem d_Te_ratioOf_12 : decode c_Te_ratioOf 12 = .ok (.getfield 25, 3) := by decide +kernel
theorem d_Te_ratioOf_15 : decode c_Te_ratioOf 15 = .ok (.areturn, 1) := by decide +kernel
set_option maxHeartbeats 4000000 in
set_option maxRecDepth 100000 in
theorem s_Te_ratioOf (l : Launch) (g : Gx) (ws0 : va_W) (sz : Nat) {s : CS} {a1 : Int32} {res : Nat} (hR : cs_Rel g ws0 ws0 s) (h : fn_Te_ratioOf s a1 = some res) : ct_MR l y_Te_ratioOf c_Te_ratioOf 2 (some (.object "ClaimTriangle$Fraction")) rm_Te_ratioOf g ws0 sz [.ref (g.2.1 3), .int a1] (g.2.1 (23 + res)) (fun u => u = ws0) := by
  refine ct_starta (by decide +kernel) (Nat.le_of_ble_eq_true rfl) (fun p e sv m args below meth c ls Q A H locs C0 hret hl hw => ?_)
  have hx := C0.1
  have hb := C0.2.1
  have hown := C0.2.2.2.1
  have hts := C0.2.2.2.2.1
  have hl : lv_has ls 2 [(0, .ref (g.2.1 3)), (1, .int a1)] := hl
  unfold fn_Te_ratioOf at h
  refine lv_iload_n hx hb d_Te_ratioOf_0 rfl (lv_at hl 1 rfl) ?_
  refine lv_if_ne hx hb (tgt := 11) d_Te_ratioOf_1 (by decide) (fun hc9 => ?_) (fun hc9 => ?_)
  · rw [if_pos hc9] at h
    refine lv_aload_n hx hb d_Te_ratioOf_11 rfl (lv_at hl 0 rfl) ?_
    refine gf_Te_25 C0 hw hR d_Te_ratioOf_12 ?_
    obtain rfl := Option.some.inj h
    exact hret hw rfl d_Te_ratioOf_15
  · rw [if_neg (fun q => q hc9)] at h
    refine lv_aload_n hx hb d_Te_ratioOf_4 rfl (lv_at hl 0 rfl) ?_
    refine gf_Te_21 C0 hw hR d_Te_ratioOf_5 ?_
    refine lv_goto hx hb (tgt := 15) d_Te_ratioOf_8 (by decide) ?_
    obtain rfl := Option.some.inj h
    exact hret hw rfl d_Te_ratioOf_15

theorem d_CT_ratio_0 : decode c_CT_ratio 0 = .ok (.iload_n 1, 1) := by decide +kernel
theorem d_CT_ratio_1 : decode c_CT_ratio 1 = .ok (.iconst (-1), 1) := by decide +kernel
theorem d_CT_ratio_2 : decode c_CT_ratio 2 = .ok (.if_icmp .eq 10, 3) := by decide +kernel
theorem d_CT_ratio_5 : decode c_CT_ratio 5 = .ok (.iload_n 1, 1) := by decide +kernel
theorem d_CT_ratio_6 : decode c_CT_ratio 6 = .ok (.invokestatic 76, 3) := by decide +kernel
theorem d_CT_ratio_9 : decode c_CT_ratio 9 = .ok (.ifCond .eq 7, 3) := by decide +kernel
theorem d_CT_ratio_12 : decode c_CT_ratio 12 = .ok (.iconst 1, 1) := by decide +kernel
theorem d_CT_ratio_13 : decode c_CT_ratio 13 = .ok (.goto 4, 3) := by decide +kernel
theorem d_CT_ratio_16 : decode c_CT_ratio 16 = .ok (.iconst 0, 1) := by decide +kernel
theorem d_CT_ratio_17 : decode c_CT_ratio 17 = .ok (.invokestatic 37, 3) := by decide +kernel
theorem d_CT_ratio_20 : decode c_CT_ratio 20 = .ok (.iload_n 2, 1) := by decide +kernel
theorem d_CT_ratio_21 : decode c_CT_ratio 21 = .ok (.iconst 0, 1) := by decide +kernel
theorem d_CT_ratio_22 : decode c_CT_ratio 22 = .ok (.sipush 9999, 3) := by decide +kernel
theorem d_CT_ratio_25 : decode c_CT_ratio 25 = .ok (.invokestatic 33, 3) := by decide +kernel
theorem d_CT_ratio_28 : decode c_CT_ratio 28 = .ok (.ifCond .eq 18, 3) := by decide +kernel
theorem d_CT_ratio_31 : decode c_CT_ratio 31 = .ok (.iload_n 3, 1) := by decide +kernel
theorem d_CT_ratio_32 : decode c_CT_ratio 32 = .ok (.iconst 1, 1) := by decide +kernel
theorem d_CT_ratio_33 : decode c_CT_ratio 33 = .ok (.sipush 9999, 3) := by decide +kernel
theorem d_CT_ratio_36 : decode c_CT_ratio 36 = .ok (.invokestatic 33, 3) := by decide +kernel
theorem d_CT_ratio_39 : decode c_CT_ratio 39 = .ok (.ifCond .eq 7, 3) := by decide +kernel
theorem d_CT_ratio_42 : decode c_CT_ratio 42 = .ok (.iconst 1, 1) := by decide +kernel
theorem d_CT_ratio_43 : decode c_CT_ratio 43 = .ok (.goto 4, 3) := by decide +kernel
theorem d_CT_ratio_46 : decode c_CT_ratio 46 = .ok (.iconst 0, 1) := by decide +kernel
theorem d_CT_ratio_47 : decode c_CT_ratio 47 = .ok (.invokestatic 37, 3) := by decide +kernel
theorem d_CT_ratio_50 : decode c_CT_ratio 50 = .ok (.iload_n 1, 1) := by decide +kernel
theorem d_CT_ratio_51 : decode c_CT_ratio 51 = .ok (.iconst (-1), 1) := by decide +kernel
theorem d_CT_ratio_52 : decode c_CT_ratio 52 = .ok (.if_icmp .ne 20, 3) := by decide +kernel
theorem d_CT_ratio_55 : decode c_CT_ratio 55 = .ok (.aload_n 0, 1) := by decide +kernel
theorem d_CT_ratio_56 : decode c_CT_ratio 56 = .ok (.getfield 32, 3) := by decide +kernel
theorem d_CT_ratio_59 : decode c_CT_ratio 59 = .ok (.getfield 86, 3) := by decide +kernel
theorem d_CT_ratio_62 : decode c_CT_ratio 62 = .ok (.iload_n 2, 1) := by decide +kernel
theorem d_CT_ratio_63 : decode c_CT_ratio 63 = .ok (.i2l, 1) := by decide +kernel
theorem d_CT_ratio_64 : decode c_CT_ratio 64 = .ok (.iload_n 3, 1) := by decide +kernel
theorem d_CT_ratio_65 : decode c_CT_ratio 65 = .ok (.i2l, 1) := by decide +kernel
theorem d_CT_ratio_66 : decode c_CT_ratio 66 = .ok (.invokevirtual 90, 3) := by decide +kernel
theorem d_CT_ratio_69 : decode c_CT_ratio 69 = .ok (.goto 18, 3) := by decide +kernel
theorem d_CT_ratio_72 : decode c_CT_ratio 72 = .ok (.aload_n 0, 1) := by decide +kernel
theorem d_CT_ratio_73 : decode c_CT_ratio 73 = .ok (.getfield 32, 3) := by decide +kernel
theorem d_CT_ratio_76 : decode c_CT_ratio 76 = .ok (.iload_n 1, 1) := by decide +kernel
theorem d_CT_ratio_77 : decode c_CT_ratio 77 = .ok (.invokevirtual 96, 3) := by decide +kernel
theorem d_CT_ratio_80 : decode c_CT_ratio 80 = .ok (.iload_n 2, 1) := by decide +kernel
theorem d_CT_ratio_81 : decode c_CT_ratio 81 = .ok (.i2l, 1) := by decide +kernel
theorem d_CT_ratio_82 : decode c_CT_ratio 82 = .ok (.iload_n 3, 1) := by decide +kernel
theorem d_CT_ratio_83 : decode c_CT_ratio 83 = .ok (.i2l, 1) := by decide +kernel
theorem d_CT_ratio_84 : decode c_CT_ratio 84 = .ok (.invokevirtual 90, 3) := by decide +kernel
theorem d_CT_ratio_87 : decode c_CT_ratio 87 = .ok (.return_, 1) := by decide +kernel
set_option maxHeartbeats 4000000 in
set_option maxRecDepth 100000 in
theorem s_CT_ratio (l : Launch) (g : Gx) (ws0 : va_W) (sz : Nat) {s : CS} {a1 : Int32} {a2 : Int32} {a3 : Int32} {res : ((Nat × CS) ⊕ CS)} (hR : cs_Rel g ws0 ws0 s) (hl0 : l.stackTraces = false) (h : fn_CT_ratio s a1 a2 a3 = some res) : ct_XV l y_CT_ratio c_CT_ratio 4 none rm_CT_ratio g ws0 sz [.ref (g.2.1 0), .int a1, .int a2, .int a3] res 2 12 := by
  refine ct_startXv hl0 (by decide +kernel) rfl (Nat.le_of_ble_eq_true rfl) (fun p e sv m args below meth c ls Q A H locs C0 hret hout hthr hl hw => ?_)
  have hx := C0.1
  have hb := C0.2.1
  have hown := C0.2.2.2.1
  have hts := C0.2.2.2.2.1
  have hl : lv_has ls 4 [(0, .ref (g.2.1 0)), (1, .int a1), (2, .int a2), (3, .int a3)] := hl
  have J47 : ∀ (ws : va_W) (H : Heap) (locs : List Loc) (ls : Array Slot) (s : CS) (t0 : Int32), ct_Wd g A sv ws H locs → cs_Rel g ws0 ws s → lv_has ls 4 [(0, .ref (g.2.1 0)), (1, .int a1), (2, .int a2), (3, .int a3)] → bk_CT_ratio_47 a1 a2 a3 s t0 = some res → W p l e rm_CT_ratio sv m args below meth c H locs 1 6 Q (F0 m 47 ls [.int t0]) := by
    intro ws H locs ls s t0 hw hR hl h
    unfold bk_CT_ratio_47 at h
    obtain ⟨o1, ho, h⟩ := ct_xb_some h
    refine ct_callSXv C0 hw hl.1 (ct_giS wd_209 wd_210 wd_1 wd_211) (fun sz => s_CT_check l g ws sz hR.rf hl0 ho) (nA := 1) (rm := rm_CT_check) (by decide +kernel) rfl ⟨rfl, rfl⟩ (by decide) (by decide) (As := [.int t0]) (rest := []) rfl (Nat.le_of_ble_eq_true rfl) d_CT_ratio_47 (fun E ce q9 ws1 H locs k9 s9 hw ho9 hE hp h1 h2 h3 => ?_) (fun ws1 H locs s9 hw ho9 hp => ?_)
    · subst ho9; obtain rfl := Option.some.inj h; exact hout hw rfl hE (hR.trans hp) h1 h2 h3 (by decide) (by decide)
    subst ho9
    have h := ct_xc_inr h
    have hR := hR.trans hp
    clear hp
    generalize ws1 = ws at hw hR
    generalize s9 = s2 at hR h
    refine lv_iload_n hx hb d_CT_ratio_50 rfl (lv_at hl 1 rfl) ?_
    refine lv_iconst (v := (-1)) hx hb d_CT_ratio_51 (by decide) ?_
    refine lv_icmp_ne hx hb (tgt := 72) d_CT_ratio_52 (by decide) (fun hc9 => ?_) (fun hc9 => ?_)
    · rw [if_pos hc9] at h
      refine lv_aload_n hx hb d_CT_ratio_72 rfl (lv_at hl 0 rfl) ?_
      refine gf_CT_32 C0 hw hR d_CT_ratio_73 ?_
      refine lv_iload_n hx hb d_CT_ratio_76 rfl (lv_at hl 1 rfl) ?_
      obtain ⟨x3, ho, h⟩ := ct_ob_some h
      refine ct_callVr C0 hw hl.1 (q0 := 3) (hR.1 3 (by decide)) rfl (ct_giV wd_401 wd_402 wd_403 wd_5 wd_404) (fun sz => s_Te_ratioOf l g ws sz hR.rf ho) (nA := 1) (rm := rm_Te_ratioOf) (by decide +kernel) rfl ⟨rfl, rfl⟩ (by decide) (by decide) (As := [.int a1]) (rest := []) rfl (Nat.le_of_ble_eq_true rfl) d_CT_ratio_77 (fun ws1 H locs hw hp => ?_)
      rw [hp] at hw
      clear hp
      have hx3 : x3 < 12 := lt_Te_ratioOf ho
      refine lv_iload_n hx hb d_CT_ratio_80 rfl (lv_at hl 2 rfl) ?_
      refine lv_i2l hx hb d_CT_ratio_81 rfl ?_
      refine lv_iload_n hx hb d_CT_ratio_82 rfl (lv_at hl 3 rfl) ?_
      refine lv_i2l hx hb d_CT_ratio_83 rfl ?_
      obtain ⟨s4, ho, h⟩ := ct_ob_some h
      refine ct_callVv C0 hw hl.1 (hR.F (f := x3) hx3) rfl (ct_giV wd_388 wd_389 wd_390 wd_6 wd_391) (fun sz => s_Fr_become l g ws sz hR.rf hx3 ho) (nA := 2) (rm := rm_Fr_become) (by decide +kernel) rfl ⟨rfl, rfl⟩ (by decide) (by decide) (As := [.long a2.toInt64, .long a3.toInt64]) (rest := []) rfl (Nat.le_of_ble_eq_true rfl) d_CT_ratio_84 (fun ws1 H locs hw hp => ?_)
      have hR := hR.trans hp
      clear hp
      generalize ws1 = ws at hw hR
      obtain rfl := Option.some.inj h
      exact hret hw ⟨_, rfl, hR⟩ (by decide) (by decide) d_CT_ratio_87
    · rw [if_neg (fun q => q hc9)] at h
      refine lv_aload_n hx hb d_CT_ratio_55 rfl (lv_at hl 0 rfl) ?_
      refine gf_CT_32 C0 hw hR d_CT_ratio_56 ?_
      refine gf_CT_86 C0 hw hR d_CT_ratio_59 ?_
      refine lv_iload_n hx hb d_CT_ratio_62 rfl (lv_at hl 2 rfl) ?_
      refine lv_i2l hx hb d_CT_ratio_63 rfl ?_
      refine lv_iload_n hx hb d_CT_ratio_64 rfl (lv_at hl 3 rfl) ?_
      refine lv_i2l hx hb d_CT_ratio_65 rfl ?_
      obtain ⟨s5, ho, h⟩ := ct_ob_some h
      refine ct_callVv C0 hw hl.1 (hR.F (f := 2) (by decide)) rfl (ct_giV wd_388 wd_389 wd_390 wd_6 wd_391) (fun sz => s_Fr_become l g ws sz hR.rf (by decide) ho) (nA := 2) (rm := rm_Fr_become) (by decide +kernel) rfl ⟨rfl, rfl⟩ (by decide) (by decide) (As := [.long a2.toInt64, .long a3.toInt64]) (rest := []) rfl (Nat.le_of_ble_eq_true rfl) d_CT_ratio_66 (fun ws1 H locs hw hp => ?_)
      have hR := hR.trans hp
      clear hp
      generalize ws1 = ws at hw hR
      refine lv_goto hx hb (tgt := 87) d_CT_ratio_69 (by decide) ?_
      obtain rfl := Option.some.inj h
      exact hret hw ⟨_, rfl, hR⟩ (by decide) (by decide) d_CT_ratio_87
  have J17 : ∀ (ws : va_W) (H : Heap) (locs : List Loc) (ls : Array Slot) (s : CS) (t0 : Int32), ct_Wd g A sv ws H locs → cs_Rel g ws0 ws s → lv_has ls 4 [(0, .ref (g.2.1 0)), (1, .int a1), (2, .int a2), (3, .int a3)] → bk_CT_ratio_17 a1 a2 a3 s t0 = some res → W p l e rm_CT_ratio sv m args below meth c H locs 0 0 Q (F0 m 17 ls [.int t0]) := by
    intro ws H locs ls s t0 hw hR hl h
    unfold bk_CT_ratio_17 at h
    obtain ⟨o6, ho, h⟩ := ct_xb_some h
    refine ct_callSXv C0 hw hl.1 (ct_giS wd_209 wd_210 wd_1 wd_211) (fun sz => s_CT_check l g ws sz hR.rf hl0 ho) (nA := 1) (rm := rm_CT_check) (by decide +kernel) rfl ⟨rfl, rfl⟩ (by decide) (by decide) (As := [.int t0]) (rest := []) rfl (Nat.le_of_ble_eq_true rfl) d_CT_ratio_17 (fun E ce q9 ws1 H locs k9 s9 hw ho9 hE hp h1 h2 h3 => ?_) (fun ws1 H locs s9 hw ho9 hp => ?_)
    · subst ho9; obtain rfl := Option.some.inj h; exact hout hw rfl hE (hR.trans hp) h1 h2 h3 (by decide) (by decide)
    subst ho9
    have h := ct_xc_inr h
    have hR := hR.trans hp
    clear hp
    generalize ws1 = ws at hw hR
    generalize s9 = s7 at hR h
    refine lv_iload_n hx hb d_CT_ratio_20 rfl (lv_at hl 2 rfl) ?_
    refine lv_iconst (v := 0) hx hb d_CT_ratio_21 (by decide) ?_
    refine lv_sipush (v := 9999) hx hb d_CT_ratio_22 (by decide) ?_
    obtain ⟨x8, ho, h⟩ := ct_ob_some h
    refine ct_callSi C0 hw hl.1 (ct_giS wd_206 wd_207 wd_1 wd_208) (fun sz => s_CT_within l g ws sz ho) (nA := 3) (rm := rm_CT_within) (by decide +kernel) rfl ⟨rfl, rfl⟩ (by decide) (by decide) (As := [.int a2, .int 0, .int 9999]) (rest := []) rfl (Nat.le_of_ble_eq_true rfl) d_CT_ratio_25 (fun ws1 H locs hw hp => ?_)
    rw [hp] at hw
    clear hp
    refine lv_if_eq hx hb (tgt := 46) d_CT_ratio_28 (by decide) (fun hc9 => ?_) (fun hc9 => ?_)
    · rw [if_pos hc9] at h
      refine lv_iconst (v := 0) hx hb d_CT_ratio_46 (by decide) ?_
      exact J47 ws H locs ls s7 0 hw hR (lv_sub hl [0, 1, 2, 3] rfl) h
    · rw [if_neg hc9] at h
      refine lv_iload_n hx hb d_CT_ratio_31 rfl (lv_at hl 3 rfl) ?_
      refine lv_iconst (v := 1) hx hb d_CT_ratio_32 (by decide) ?_
      refine lv_sipush (v := 9999) hx hb d_CT_ratio_33 (by decide) ?_
      obtain ⟨x9, ho, h⟩ := ct_ob_some h
      refine ct_callSi C0 hw hl.1 (ct_giS wd_206 wd_207 wd_1 wd_208) (fun sz => s_CT_within l g ws sz ho) (nA := 3) (rm := rm_CT_within) (by decide +kernel) rfl ⟨rfl, rfl⟩ (by decide) (by decide) (As := [.int a3, .int 1, .int 9999]) (rest := []) rfl (Nat.le_of_ble_eq_true rfl) d_CT_ratio_36 (fun ws1 H locs hw hp => ?_)
      rw [hp] at hw
      clear hp
      refine lv_if_eq hx hb (tgt := 46) d_CT_ratio_39 (by decide) (fun hc9 => ?_) (fun hc9 => ?_)
      · rw [if_pos hc9] at h
        refine lv_iconst (v := 0) hx hb d_CT_ratio_46 (by decide) ?_
        exact J47 ws H locs ls s7 0 hw hR (lv_sub hl [0, 1, 2, 3] rfl) h
      · rw [if_neg hc9] at h
        refine lv_iconst (v := 1) hx hb d_CT_ratio_42 (by decide) ?_
        refine lv_goto hx hb (tgt := 47) d_CT_ratio_43 (by decide) ?_
        exact J47 ws H locs ls s7 1 hw hR (lv_sub hl [0, 1, 2, 3] rfl) h
  unfold fn_CT_ratio at h
  obtain ⟨ws, hwe⟩ : ∃ z : va_W, z = ws0 := ⟨_, rfl⟩
  rw [← hwe] at hw
  have hR : cs_Rel g ws0 ws s := by rw [hwe]; exact hR
  clear hwe
  refine lv_iload_n hx hb d_CT_ratio_0 rfl (lv_at hl 1 rfl) ?_
  refine lv_iconst (v := (-1)) hx hb d_CT_ratio_1 (by decide) ?_
  refine lv_icmp_eq hx hb (tgt := 12) d_CT_ratio_2 (by decide) (fun hc9 => ?_) (fun hc9 => ?_)
  · rw [if_pos hc9] at h
    refine lv_iconst (v := 1) hx hb d_CT_ratio_12 (by decide) ?_
    refine lv_goto hx hb (tgt := 17) d_CT_ratio_13 (by decide) ?_
    exact J17 ws H locs ls s 1 hw hR (lv_sub hl [0, 1, 2, 3] rfl) h
  · rw [if_neg hc9] at h
    refine lv_iload_n hx hb d_CT_ratio_5 rfl (lv_at hl 1 rfl) ?_
    obtain ⟨x10, ho, h⟩ := ct_ob_some h
    refine ct_callSi C0 hw hl.1 (ct_giS wd_285 wd_286 wd_1 wd_287) (fun sz => s_CT_isLine l g ws sz ho) (nA := 1) (rm := rm_CT_isLine) (by decide +kernel) rfl ⟨rfl, rfl⟩ (by decide) (by decide) (As := [.int a1]) (rest := []) rfl (Nat.le_of_ble_eq_true rfl) d_CT_ratio_6 (fun ws1 H locs hw hp => ?_)
    rw [hp] at hw
    clear hp
    refine lv_if_eq hx hb (tgt := 16) d_CT_ratio_9 (by decide) (fun hc9 => ?_) (fun hc9 => ?_)
    · rw [if_pos hc9] at h
      refine lv_iconst (v := 0) hx hb d_CT_ratio_16 (by decide) ?_
      exact J17 ws H locs ls s 0 hw hR (lv_sub hl [0, 1, 2, 3] rfl) h
    · rw [if_neg hc9] at h
      refine lv_iconst (v := 1) hx hb d_CT_ratio_12 (by decide) ?_
      refine lv_goto hx hb (tgt := 17) d_CT_ratio_13 (by decide) ?_
      exact J17 ws H locs ls s 1 hw hR (lv_sub hl [0, 1, 2, 3] rfl) h

theorem d_Tr_reshape_0 : decode c_Tr_reshape 0 = .ok (.aload_n 0, 1) := by decide +kernel
theorem d_Tr_reshape_1 : decode c_Tr_reshape 1 = .ok (.iload_n 1, 1) := by decide +kernel
theorem d_Tr_reshape_2 : decode c_Tr_reshape 2 = .ok (.putfield 20, 3) := by decide +kernel
theorem d_Tr_reshape_5 : decode c_Tr_reshape 5 = .ok (.aload_n 0, 1) := by decide +kernel
theorem d_Tr_reshape_6 : decode c_Tr_reshape 6 = .ok (.iload_n 2, 1) := by decide +kernel
theorem d_Tr_reshape_7 : decode c_Tr_reshape 7 = .ok (.putfield 24, 3) := by decide +kernel
theorem d_Tr_reshape_10 : decode c_Tr_reshape 10 = .ok (.aload_n 0, 1) := by decide +kernel
theorem d_Tr_reshape_11 : decode c_Tr_reshape 11 = .ok (.iload_n 3, 1) := by decide +kernel
theorem d_Tr_reshape_12 : decode c_Tr_reshape 12 = .ok (.putfield 27, 3) := by decide +kernel
theorem d_Tr_reshape_15 : decode c_Tr_reshape 15 = .ok (.aload_n 0, 1) := by decide +kernel
theorem d_Tr_reshape_16 : decode c_Tr_reshape 16 = .ok (.iload 4, 2) := by decide +kernel
theorem d_Tr_reshape_18 : decode c_Tr_reshape 18 = .ok (.putfield 31, 3) := by decide +kernel
theorem d_Tr_reshape_21 : decode c_Tr_reshape 21 = .ok (.aload_n 0, 1) := by decide +kernel
theorem d_Tr_reshape_22 : decode c_Tr_reshape 22 = .ok (.iconst 0, 1) := by decide +kernel
theorem d_Tr_reshape_23 : decode c_Tr_reshape 23 = .ok (.putfield 34, 3) := by decide +kernel
theorem d_Tr_reshape_26 : decode c_Tr_reshape 26 = .ok (.iconst 0, 1) := by decide +kernel
theorem d_Tr_reshape_27 : decode c_Tr_reshape 27 = .ok (.istore 5, 2) := by decide +kernel
theorem d_Tr_reshape_29 : decode c_Tr_reshape 29 = .ok (.iload 5, 2) := by decide +kernel
theorem d_Tr_reshape_31 : decode c_Tr_reshape 31 = .ok (.aload_n 0, 1) := by decide +kernel
theorem d_Tr_reshape_32 : decode c_Tr_reshape 32 = .ok (.getfield 16, 3) := by decide +kernel
theorem d_Tr_reshape_35 : decode c_Tr_reshape 35 = .ok (.arraylength, 1) := by decide +kernel
theorem d_Tr_reshape_36 : decode c_Tr_reshape 36 = .ok (.if_icmp .ge 17, 3) := by decide +kernel
theorem d_Tr_reshape_39 : decode c_Tr_reshape 39 = .ok (.aload_n 0, 1) := by decide +kernel
theorem d_Tr_reshape_40 : decode c_Tr_reshape 40 = .ok (.getfield 16, 3) := by decide +kernel
theorem d_Tr_reshape_43 : decode c_Tr_reshape 43 = .ok (.iload 5, 2) := by decide +kernel
theorem d_Tr_reshape_45 : decode c_Tr_reshape 45 = .ok (.iconst 0, 1) := by decide +kernel
theorem d_Tr_reshape_46 : decode c_Tr_reshape 46 = .ok (.bastore, 1) := by decide +kernel
theorem d_Tr_reshape_47 : decode c_Tr_reshape 47 = .ok (.iinc 5 1, 3) := by decide +kernel
theorem d_Tr_reshape_50 : decode c_Tr_reshape 50 = .ok (.goto (-21), 3) := by decide +kernel
theorem d_Tr_reshape_53 : decode c_Tr_reshape 53 = .ok (.return_, 1) := by decide +kernel
set_option maxHeartbeats 4000000 in
set_option maxRecDepth 100000 in
theorem s_Tr_reshape (l : Launch) (g : Gx) (ws0 : va_W) (sz : Nat) {s : CS} {a1 : Int32} {a2 : Int32} {a3 : Int32} {a4 : Int32} {res : CS} (hR : cs_Rel g ws0 ws0 s) (h : fn_Tr_reshape s a1 a2 a3 a4 = some res) : ct_MV l y_Tr_reshape c_Tr_reshape 6 none rm_Tr_reshape g ws0 sz [.ref (g.2.1 2), .int a1, .int a2, .int a3, .int a4]  (fun u => cs_Rel g ws0 u res) := by
  refine ct_startv (by decide +kernel) (Nat.le_of_ble_eq_true rfl) (fun p e sv m args below meth c ls Q A H locs C0 hret hl hw => ?_)
  have hx := C0.1
  have hb := C0.2.1
  have hown := C0.2.2.2.1
  have hts := C0.2.2.2.2.1
  have hl : lv_has ls 6 [(0, .ref (g.2.1 2)), (1, .int a1), (2, .int a2), (3, .int a3), (4, .int a4)] := hl
  have L29 : ∀ (n29 : Nat) (ws : va_W) (H : Heap) (locs : List Loc) (ls : Array Slot) (s : CS) (v5 : Int32), ct_Wd g A sv ws H locs → cs_Rel g ws0 ws s → lv_has ls 6 [(0, .ref (g.2.1 2)), (5, .int v5)] → bk_Tr_reshape_29 a1 a2 a3 a4 n29 s v5 = some res → W p l e rm_Tr_reshape sv m args below meth c H locs 0 0 Q (F0 m 29 ls []) := by
    intro n29
    induction n29 with
    | zero =>
      intro ws H locs ls s v5 hw hR hl h
      exact absurd h (by simp [bk_Tr_reshape_29])
    | succ n29 ih29 =>
      intro ws H locs ls s v5 hw hR hl h
      have h : bk_Tr_reshape_29_o a1 a2 a3 a4 (bk_Tr_reshape_29 a1 a2 a3 a4 n29) s v5 = some res := h
      unfold bk_Tr_reshape_29_o at h
      refine lv_iload hx hb d_Tr_reshape_29 (lv_at hl 1 rfl) ?_
      refine lv_aload_n hx hb d_Tr_reshape_31 rfl (lv_at hl 0 rfl) ?_
      refine gf_Tr_16 C0 hw hR d_Tr_reshape_32 ?_
      refine ct_lena C0 hw hR d_Tr_reshape_35 ?_
      refine lv_icmp_ge hx hb (tgt := 53) d_Tr_reshape_36 (by decide) (fun hc9 => ?_) (fun hc9 => ?_)
      · rw [if_pos hc9] at h
        obtain rfl := Option.some.inj h
        exact hret hw hR d_Tr_reshape_53
      · rw [if_neg hc9] at h
        refine lv_aload_n hx hb d_Tr_reshape_39 rfl (lv_at hl 0 rfl) ?_
        refine gf_Tr_16 C0 hw hR d_Tr_reshape_40 ?_
        refine lv_iload hx hb d_Tr_reshape_43 (lv_at hl 1 rfl) ?_
        refine lv_iconst (v := 0) hx hb d_Tr_reshape_45 (by decide) ?_
        obtain ⟨hg46, h⟩ := ct_gd_some h
        refine ct_stO C0 hw hR (ct_inR_vp hg46) d_Tr_reshape_46 (fun ws H locs hw hR => ?_)
        obtain ⟨s1, es9, h⟩ := ct_nm_ex h
        rw [← es9] at hR
        clear es9
        refine lv_iinc (v := v5 + 1) (k := 1) (lv' := [(5, .int (v5 + 1)), (0, .ref (g.2.1 2))]) hx hb d_Tr_reshape_47 hl rfl rfl (by decide) rfl (fun ls hl => ?_)
        refine lv_goto hx hb (tgt := 29) d_Tr_reshape_50 (by decide) ?_
        exact ih29 ws H locs ls s1 (v5 + 1) hw hR (lv_sub hl [1, 0] rfl) h
  unfold fn_Tr_reshape at h
  obtain ⟨ws, hwe⟩ : ∃ z : va_W, z = ws0 := ⟨_, rfl⟩
  rw [← hwe] at hw
  have hR : cs_Rel g ws0 ws s := by rw [hwe]; exact hR
  clear hwe
  refine lv_aload_n hx hb d_Tr_reshape_0 rfl (lv_at hl 0 rfl) ?_
  refine lv_iload_n hx hb d_Tr_reshape_1 rfl (lv_at hl 1 rfl) ?_
  refine pf_Tr_20 C0 hw hR d_Tr_reshape_2 (fun ws H locs hw hR => ?_)
  obtain ⟨s2, es9, h⟩ := ct_nm_ex h
  rw [← es9] at hR
  clear es9
  refine lv_aload_n hx hb d_Tr_reshape_5 rfl (lv_at hl 0 rfl) ?_
  refine lv_iload_n hx hb d_Tr_reshape_6 rfl (lv_at hl 2 rfl) ?_
  refine pf_Tr_24 C0 hw hR d_Tr_reshape_7 (fun ws H locs hw hR => ?_)
  obtain ⟨s3, es9, h⟩ := ct_nm_ex h
  rw [← es9] at hR
  clear es9
  refine lv_aload_n hx hb d_Tr_reshape_10 rfl (lv_at hl 0 rfl) ?_
  refine lv_iload_n hx hb d_Tr_reshape_11 rfl (lv_at hl 3 rfl) ?_
  obtain ⟨hg, h⟩ := ct_gd_some h
  refine pf_Tr_27 C0 hw hR hg d_Tr_reshape_12 (fun ws H locs hw hR => ?_)
  obtain ⟨s4, es9, h⟩ := ct_nm_ex h
  rw [← es9] at hR
  clear es9
  refine lv_aload_n hx hb d_Tr_reshape_15 rfl (lv_at hl 0 rfl) ?_
  refine lv_iload hx hb d_Tr_reshape_16 (lv_at hl 4 rfl) ?_
  refine pf_Tr_31 C0 hw hR d_Tr_reshape_18 (fun ws H locs hw hR => ?_)
  obtain ⟨s5, es9, h⟩ := ct_nm_ex h
  rw [← es9] at hR
  clear es9
  refine lv_aload_n hx hb d_Tr_reshape_21 rfl (lv_at hl 0 rfl) ?_
  refine lv_iconst (v := 0) hx hb d_Tr_reshape_22 (by decide) ?_
  refine pf_Tr_34 C0 hw hR d_Tr_reshape_23 (fun ws H locs hw hR => ?_)
  obtain ⟨s6, es9, h⟩ := ct_nm_ex h
  rw [← es9] at hR
  clear es9
  refine lv_iconst (v := 0) hx hb d_Tr_reshape_26 (by decide) ?_
  refine lv_istore (lv' := [(5, .int 0), (0, .ref (g.2.1 2)), (1, .int a1), (2, .int a2), (3, .int a3), (4, .int a4)]) hx hb d_Tr_reshape_27 hl (by decide) rfl (fun ls hl => ?_)
  exact L29 200 ws H locs ls s6 0 hw hR (lv_sub hl [1, 0] rfl) h

theorem d_CT_build_0 : decode c_CT_build 0 = .ok (.iload_n 1, 1) := by decide +kernel
theorem d_CT_build_1 : decode c_CT_build 1 = .ok (.invokestatic 76, 3) := by decide +kernel
theorem d_CT_build_4 : decode c_CT_build 4 = .ok (.ifCond .eq 28, 3) := by decide +kernel
theorem d_CT_build_7 : decode c_CT_build 7 = .ok (.iload_n 2, 1) := by decide +kernel
theorem d_CT_build_8 : decode c_CT_build 8 = .ok (.iconst 1, 1) := by decide +kernel
theorem d_CT_build_9 : decode c_CT_build 9 = .ok (.bipush 12, 2) := by decide +kernel
theorem d_CT_build_11 : decode c_CT_build 11 = .ok (.invokestatic 33, 3) := by decide +kernel
theorem d_CT_build_14 : decode c_CT_build 14 = .ok (.ifCond .eq 18, 3) := by decide +kernel
theorem d_CT_build_17 : decode c_CT_build 17 = .ok (.iload 4, 2) := by decide +kernel
theorem d_CT_build_19 : decode c_CT_build 19 = .ok (.iconst 1, 1) := by decide +kernel
theorem d_CT_build_20 : decode c_CT_build 20 = .ok (.bipush 6, 2) := by decide +kernel
theorem d_CT_build_22 : decode c_CT_build 22 = .ok (.invokestatic 33, 3) := by decide +kernel
theorem d_CT_build_25 : decode c_CT_build 25 = .ok (.ifCond .eq 7, 3) := by decide +kernel
theorem d_CT_build_28 : decode c_CT_build 28 = .ok (.iconst 1, 1) := by decide +kernel
theorem d_CT_build_29 : decode c_CT_build 29 = .ok (.goto 4, 3) := by decide +kernel
theorem d_CT_build_32 : decode c_CT_build 32 = .ok (.iconst 0, 1) := by decide +kernel
theorem d_CT_build_33 : decode c_CT_build 33 = .ok (.invokestatic 37, 3) := by decide +kernel
theorem d_CT_build_36 : decode c_CT_build 36 = .ok (.aload_n 0, 1) := by decide +kernel
theorem d_CT_build_37 : decode c_CT_build 37 = .ok (.getfield 27, 3) := by decide +kernel
theorem d_CT_build_40 : decode c_CT_build 40 = .ok (.iload_n 1, 1) := by decide +kernel
theorem d_CT_build_41 : decode c_CT_build 41 = .ok (.iload_n 2, 1) := by decide +kernel
theorem d_CT_build_42 : decode c_CT_build 42 = .ok (.iload_n 3, 1) := by decide +kernel
theorem d_CT_build_43 : decode c_CT_build 43 = .ok (.iload 4, 2) := by decide +kernel
theorem d_CT_build_45 : decode c_CT_build 45 = .ok (.invokevirtual 100, 3) := by decide +kernel
theorem d_CT_build_48 : decode c_CT_build 48 = .ok (.aload_n 0, 1) := by decide +kernel
theorem d_CT_build_49 : decode c_CT_build 49 = .ok (.getfield 27, 3) := by decide +kernel
theorem d_CT_build_52 : decode c_CT_build 52 = .ok (.aload_n 0, 1) := by decide +kernel
theorem d_CT_build_53 : decode c_CT_build 53 = .ok (.getfield 10, 3) := by decide +kernel
theorem d_CT_build_56 : decode c_CT_build 56 = .ok (.invokevirtual 56, 3) := by decide +kernel
theorem d_CT_build_59 : decode c_CT_build 59 = .ok (.return_, 1) := by decide +kernel
set_option maxHeartbeats 4000000 in
set_option maxRecDepth 100000 in
theorem s_CT_build (l : Launch) (g : Gx) (ws0 : va_W) (sz : Nat) {s : CS} {a1 : Int32} {a2 : Int32} {a3 : Int32} {a4 : Int32} {res : ((Nat × CS) ⊕ CS)} (hR : cs_Rel g ws0 ws0 s) (hl0 : l.stackTraces = false) (h : fn_CT_build s a1 a2 a3 a4 = some res) : ct_XV l y_CT_build c_CT_build 5 none rm_CT_build g ws0 sz [.ref (g.2.1 0), .int a1, .int a2, .int a3, .int a4] res 1 6 := by
  refine ct_startXv hl0 (by decide +kernel) rfl (Nat.le_of_ble_eq_true rfl) (fun p e sv m args below meth c ls Q A H locs C0 hret hout hthr hl hw => ?_)
  have hx := C0.1
  have hb := C0.2.1
  have hown := C0.2.2.2.1
  have hts := C0.2.2.2.2.1
  have hl : lv_has ls 5 [(0, .ref (g.2.1 0)), (1, .int a1), (2, .int a2), (3, .int a3), (4, .int a4)] := hl
  have J33 : ∀ (ws : va_W) (H : Heap) (locs : List Loc) (ls : Array Slot) (s : CS) (t0 : Int32), ct_Wd g A sv ws H locs → cs_Rel g ws0 ws s → lv_has ls 5 [(0, .ref (g.2.1 0)), (1, .int a1), (2, .int a2), (3, .int a3), (4, .int a4)] → bk_CT_build_33 a1 a2 a3 a4 s t0 = some res → W p l e rm_CT_build sv m args below meth c H locs 0 0 Q (F0 m 33 ls [.int t0]) := by
    intro ws H locs ls s t0 hw hR hl h
    unfold bk_CT_build_33 at h
    obtain ⟨o1, ho, h⟩ := ct_xb_some h
    refine ct_callSXv C0 hw hl.1 (ct_giS wd_209 wd_210 wd_1 wd_211) (fun sz => s_CT_check l g ws sz hR.rf hl0 ho) (nA := 1) (rm := rm_CT_check) (by decide +kernel) rfl ⟨rfl, rfl⟩ (by decide) (by decide) (As := [.int t0]) (rest := []) rfl (Nat.le_of_ble_eq_true rfl) d_CT_build_33 (fun E ce q9 ws1 H locs k9 s9 hw ho9 hE hp h1 h2 h3 => ?_) (fun ws1 H locs s9 hw ho9 hp => ?_)
    · subst ho9; obtain rfl := Option.some.inj h; exact hout hw rfl hE (hR.trans hp) h1 h2 h3 (by decide) (by decide)
    subst ho9
    have h := ct_xc_inr h
    have hR := hR.trans hp
    clear hp
    generalize ws1 = ws at hw hR
    generalize s9 = s2 at hR h
    refine lv_aload_n hx hb d_CT_build_36 rfl (lv_at hl 0 rfl) ?_
    refine gf_CT_27 C0 hw hR d_CT_build_37 ?_
    refine lv_iload_n hx hb d_CT_build_40 rfl (lv_at hl 1 rfl) ?_
    refine lv_iload_n hx hb d_CT_build_41 rfl (lv_at hl 2 rfl) ?_
    refine lv_iload_n hx hb d_CT_build_42 rfl (lv_at hl 3 rfl) ?_
    refine lv_iload hx hb d_CT_build_43 (lv_at hl 4 rfl) ?_
    obtain ⟨s3, ho, h⟩ := ct_ob_some h
    refine ct_callVv C0 hw hl.1 (q0 := 2) (hR.1 2 (by decide)) rfl (ct_giV wd_412 wd_413 wd_414 wd_4 wd_415) (fun sz => s_Tr_reshape l g ws sz hR.rf ho) (nA := 4) (rm := rm_Tr_reshape) (by decide +kernel) rfl ⟨rfl, rfl⟩ (by decide) (by decide) (As := [.int a1, .int a2, .int a3, .int a4]) (rest := []) rfl (Nat.le_of_ble_eq_true rfl) d_CT_build_45 (fun ws1 H locs hw hp => ?_)
    have hR := hR.trans hp
    clear hp
    generalize ws1 = ws at hw hR
    refine lv_aload_n hx hb d_CT_build_48 rfl (lv_at hl 0 rfl) ?_
    refine gf_CT_27 C0 hw hR d_CT_build_49 ?_
    refine lv_aload_n hx hb d_CT_build_52 rfl (lv_at hl 0 rfl) ?_
    refine gf_CT_10 C0 hw hR d_CT_build_53 ?_
    obtain ⟨s4, ho, h⟩ := ct_ob_some h
    refine ct_callVv C0 hw hl.1 (q0 := 2) (hR.1 2 (by decide)) rfl (ct_giV wd_311 wd_312 wd_313 wd_4 wd_314) (fun sz => s_Tr_fill l g ws sz hR.rf ho) (nA := 1) (rm := rm_Tr_fill) (by decide +kernel) rfl ⟨rfl, rfl⟩ (by decide) (by decide) (As := [.ref (g.2.1 1)]) (rest := []) rfl (Nat.le_of_ble_eq_true rfl) d_CT_build_56 (fun ws1 H locs hw hp => ?_)
    have hR := hR.trans hp
    clear hp
    generalize ws1 = ws at hw hR
    obtain rfl := Option.some.inj h
    exact hret hw ⟨_, rfl, hR⟩ (by decide) (by decide) d_CT_build_59
  unfold fn_CT_build at h
  obtain ⟨ws, hwe⟩ : ∃ z : va_W, z = ws0 := ⟨_, rfl⟩
  rw [← hwe] at hw
  have hR : cs_Rel g ws0 ws s := by rw [hwe]; exact hR
  clear hwe
  refine lv_iload_n hx hb d_CT_build_0 rfl (lv_at hl 1 rfl) ?_
  obtain ⟨x5, ho, h⟩ := ct_ob_some h
  refine ct_callSi C0 hw hl.1 (ct_giS wd_285 wd_286 wd_1 wd_287) (fun sz => s_CT_isLine l g ws sz ho) (nA := 1) (rm := rm_CT_isLine) (by decide +kernel) rfl ⟨rfl, rfl⟩ (by decide) (by decide) (As := [.int a1]) (rest := []) rfl (Nat.le_of_ble_eq_true rfl) d_CT_build_1 (fun ws1 H locs hw hp => ?_)
  rw [hp] at hw
  clear hp
  refine lv_if_eq hx hb (tgt := 32) d_CT_build_4 (by decide) (fun hc9 => ?_) (fun hc9 => ?_)
  · rw [if_pos hc9] at h
    refine lv_iconst (v := 0) hx hb d_CT_build_32 (by decide) ?_
    exact J33 ws H locs ls s 0 hw hR (lv_sub hl [0, 1, 2, 3, 4] rfl) h
  · rw [if_neg hc9] at h
    refine lv_iload_n hx hb d_CT_build_7 rfl (lv_at hl 2 rfl) ?_
    refine lv_iconst (v := 1) hx hb d_CT_build_8 (by decide) ?_
    refine lv_bipush (v := 12) hx hb d_CT_build_9 (by decide) ?_
    obtain ⟨x6, ho, h⟩ := ct_ob_some h
    refine ct_callSi C0 hw hl.1 (ct_giS wd_206 wd_207 wd_1 wd_208) (fun sz => s_CT_within l g ws sz ho) (nA := 3) (rm := rm_CT_within) (by decide +kernel) rfl ⟨rfl, rfl⟩ (by decide) (by decide) (As := [.int a2, .int 1, .int 12]) (rest := []) rfl (Nat.le_of_ble_eq_true rfl) d_CT_build_11 (fun ws1 H locs hw hp => ?_)
    rw [hp] at hw
    clear hp
    refine lv_if_eq hx hb (tgt := 32) d_CT_build_14 (by decide) (fun hc9 => ?_) (fun hc9 => ?_)
    · rw [if_pos hc9] at h
      refine lv_iconst (v := 0) hx hb d_CT_build_32 (by decide) ?_
      exact J33 ws H locs ls s 0 hw hR (lv_sub hl [0, 1, 2, 3, 4] rfl) h
    · rw [if_neg hc9] at h
      refine lv_iload hx hb d_CT_build_17 (lv_at hl 4 rfl) ?_
      refine lv_iconst (v := 1) hx hb d_CT_build_19 (by decide) ?_
      refine lv_bipush (v := 6) hx hb d_CT_build_20 (by decide) ?_
      obtain ⟨x7, ho, h⟩ := ct_ob_some h
      refine ct_callSi C0 hw hl.1 (ct_giS wd_206 wd_207 wd_1 wd_208) (fun sz => s_CT_within l g ws sz ho) (nA := 3) (rm := rm_CT_within) (by decide +kernel) rfl ⟨rfl, rfl⟩ (by decide) (by decide) (As := [.int a4, .int 1, .int 6]) (rest := []) rfl (Nat.le_of_ble_eq_true rfl) d_CT_build_22 (fun ws1 H locs hw hp => ?_)
      rw [hp] at hw
      clear hp
      refine lv_if_eq hx hb (tgt := 32) d_CT_build_25 (by decide) (fun hc9 => ?_) (fun hc9 => ?_)
      · rw [if_pos hc9] at h
        refine lv_iconst (v := 0) hx hb d_CT_build_32 (by decide) ?_
        exact J33 ws H locs ls s 0 hw hR (lv_sub hl [0, 1, 2, 3, 4] rfl) h
      · rw [if_neg hc9] at h
        refine lv_iconst (v := 1) hx hb d_CT_build_28 (by decide) ?_
        refine lv_goto hx hb (tgt := 33) d_CT_build_29 (by decide) ?_
        exact J33 ws H locs ls s 1 hw hR (lv_sub hl [0, 1, 2, 3, 4] rfl) h

theorem d_Tr_shown_0 : decode c_Tr_shown 0 = .ok (.aload_n 0, 1) := by decide +kernel
theorem d_Tr_shown_1 : decode c_Tr_shown 1 = .ok (.getfield 31, 3) := by decide +kernel
theorem d_Tr_shown_4 : decode c_Tr_shown 4 = .ok (.aload_n 0, 1) := by decide +kernel
theorem d_Tr_shown_5 : decode c_Tr_shown 5 = .ok (.getfield 34, 3) := by decide +kernel
theorem d_Tr_shown_8 : decode c_Tr_shown 8 = .ok (.isub, 1) := by decide +kernel
theorem d_Tr_shown_9 : decode c_Tr_shown 9 = .ok (.ireturn, 1) := by decide +kernel
set_option maxHeartbeats 4000000 in
set_option maxRecDepth 100000 in
theorem s_Tr_shown (l : Launch) (g : Gx) (ws0 : va_W) (sz : Nat) {s : CS} {res : Int32} (hR : cs_Rel g ws0 ws0 s) (h : fn_Tr_shown s = some res) : ct_MI l y_Tr_shown c_Tr_shown 1 (some .int) rm_Tr_shown g ws0 sz [.ref (g.2.1 2)] res (fun u => u = ws0) := by
  refine ct_starti (by decide +kernel) (Nat.le_of_ble_eq_true rfl) (fun p e sv m args below meth c ls Q A H locs C0 hret hl hw => ?_)
  have hx := C0.1
  have hb := C0.2.1
  have hown := C0.2.2.2.1
  have hts := C0.2.2.2.2.1
  have hl : lv_has ls 1 [(0, .ref (g.2.1 2))] := hl
  unfold fn_Tr_shown at h
  refine lv_aload_n hx hb d_Tr_shown_0 rfl (lv_at hl 0 rfl) ?_
  refine gf_Tr_31 C0 hw hR d_Tr_shown_1 ?_
  refine lv_aload_n hx hb d_Tr_shown_4 rfl (lv_at hl 0 rfl) ?_
  refine gf_Tr_34 C0 hw hR d_Tr_shown_5 ?_
  refine lv_isub hx hb d_Tr_shown_8 ?_
  obtain rfl := Option.some.inj h
  exact hret hw rfl d_Tr_shown_9

theorem d_CT_isCell_0 : decode c_CT_isCell 0 = .ok (.iload_n 0, 1) := by decide +kernel
theorem d_CT_isCell_1 : decode c_CT_isCell 1 = .ok (.iconst 0, 1) := by decide +kernel
theorem d_CT_isCell_2 : decode c_CT_isCell 2 = .ok (.iload_n 2, 1) := by decide +kernel
theorem d_CT_isCell_3 : decode c_CT_isCell 3 = .ok (.iconst 1, 1) := by decide +kernel
theorem d_CT_isCell_4 : decode c_CT_isCell 4 = .ok (.isub, 1) := by decide +kernel
theorem d_CT_isCell_5 : decode c_CT_isCell 5 = .ok (.invokestatic 33, 3) := by decide +kernel
theorem d_CT_isCell_8 : decode c_CT_isCell 8 = .ok (.ifCond .eq 20, 3) := by decide +kernel
theorem d_CT_isCell_11 : decode c_CT_isCell 11 = .ok (.iload_n 1, 1) := by decide +kernel
theorem d_CT_isCell_12 : decode c_CT_isCell 12 = .ok (.iconst 0, 1) := by decide +kernel
theorem d_CT_isCell_13 : decode c_CT_isCell 13 = .ok (.iload_n 2, 1) := by decide +kernel
theorem d_CT_isCell_14 : decode c_CT_isCell 14 = .ok (.iconst 1, 1) := by decide +kernel
theorem d_CT_isCell_15 : decode c_CT_isCell 15 = .ok (.isub, 1) := by decide +kernel
theorem d_CT_isCell_16 : decode c_CT_isCell 16 = .ok (.iload_n 0, 1) := by decide +kernel
theorem d_CT_isCell_17 : decode c_CT_isCell 17 = .ok (.isub, 1) := by decide +kernel
theorem d_CT_isCell_18 : decode c_CT_isCell 18 = .ok (.invokestatic 33, 3) := by decide +kernel
theorem d_CT_isCell_21 : decode c_CT_isCell 21 = .ok (.ifCond .eq 7, 3) := by decide +kernel
theorem d_CT_isCell_24 : decode c_CT_isCell 24 = .ok (.iconst 1, 1) := by decide +kernel
theorem d_CT_isCell_25 : decode c_CT_isCell 25 = .ok (.goto 4, 3) := by decide +kernel
theorem d_CT_isCell_28 : decode c_CT_isCell 28 = .ok (.iconst 0, 1) := by decide +kernel
theorem d_CT_isCell_29 : decode c_CT_isCell 29 = .ok (.ireturn, 1) := by decide +kernel
set_option maxHeartbeats 4000000 in
set_option maxRecDepth 100000 in
theorem s_CT_isCell (l : Launch) (g : Gx) (ws0 : va_W) (sz : Nat) {a1 : Int32} {a2 : Int32} {a3 : Int32} {res : Int32} (h : fn_CT_isCell a1 a2 a3 = some res) : ct_MI l y_CT_isCell c_CT_isCell 3 (some .boolean) rm_CT_isCell g ws0 sz [.int a1, .int a2, .int a3] res (fun u => u = ws0) := by
  refine ct_startz (by decide +kernel) (Nat.le_of_ble_eq_true rfl) (fun p e sv m args below meth c ls Q A H locs C0 hret hl hw => ?_)
  have hx := C0.1
  have hb := C0.2.1
  have hown := C0.2.2.2.1
  have hts := C0.2.2.2.2.1
  have hl : lv_has ls 3 [(0, .int a1), (1, .int a2), (2, .int a3)] := hl
  unfold fn_CT_isCell at h
  refine lv_iload_n hx hb d_CT_isCell_0 rfl (lv_at hl 0 rfl) ?_
  refine lv_iconst (v := 0) hx hb d_CT_isCell_1 (by decide) ?_
  refine lv_iload_n hx hb d_CT_isCell_2 rfl (lv_at hl 2 rfl) ?_
  refine lv_iconst (v := 1) hx hb d_CT_isCell_3 (by decide) ?_
  refine lv_isub hx hb d_CT_isCell_4 ?_
  obtain ⟨x1, ho, h⟩ := ct_ob_some h
  refine ct_callSi C0 hw hl.1 (ct_giS wd_206 wd_207 wd_1 wd_208) (fun sz => s_CT_within l g ws0 sz ho) (nA := 3) (rm := rm_CT_within) (by decide +kernel) rfl ⟨rfl, rfl⟩ (by decide) (by decide) (As := [.int a1, .int 0, .int (a3 - 1)]) (rest := []) rfl (Nat.le_of_ble_eq_true rfl) d_CT_isCell_5 (fun ws1 H locs hw hp => ?_)
  rw [hp] at hw
  clear hp
  refine lv_if_eq hx hb (tgt := 28) d_CT_isCell_8 (by decide) (fun hc9 => ?_) (fun hc9 => ?_)
  · rw [if_pos hc9] at h
    refine lv_iconst (v := 0) hx hb d_CT_isCell_28 (by decide) ?_
    have hz : ct_isB 0 = true := by decide
    obtain rfl := Option.some.inj h
    exact hret hz hw rfl d_CT_isCell_29
  · rw [if_neg hc9] at h
    refine lv_iload_n hx hb d_CT_isCell_11 rfl (lv_at hl 1 rfl) ?_
    refine lv_iconst (v := 0) hx hb d_CT_isCell_12 (by decide) ?_
    refine lv_iload_n hx hb d_CT_isCell_13 rfl (lv_at hl 2 rfl) ?_
    refine lv_iconst (v := 1) hx hb d_CT_isCell_14 (by decide) ?_
    refine lv_isub hx hb d_CT_isCell_15 ?_
    refine lv_iload_n hx hb d_CT_isCell_16 rfl (lv_at hl 0 rfl) ?_
    refine lv_isub hx hb d_CT_isCell_17 ?_
    obtain ⟨x2, ho, h⟩ := ct_ob_some h
    refine ct_callSi C0 hw hl.1 (ct_giS wd_206 wd_207 wd_1 wd_208) (fun sz => s_CT_within l g ws0 sz ho) (nA := 3) (rm := rm_CT_within) (by decide +kernel) rfl ⟨rfl, rfl⟩ (by decide) (by decide) (As := [.int a2, .int 0, .int ((a3 - 1) - a1)]) (rest := []) rfl (Nat.le_of_ble_eq_true rfl) d_CT_isCell_18 (fun ws1 H locs hw hp => ?_)
    rw [hp] at hw
    clear hp
    refine lv_if_eq hx hb (tgt := 28) d_CT_isCell_21 (by decide) (fun hc9 => ?_) (fun hc9 => ?_)
    · rw [if_pos hc9] at h
      refine lv_iconst (v := 0) hx hb d_CT_isCell_28 (by decide) ?_
      have hz : ct_isB 0 = true := by decide
      obtain rfl := Option.some.inj h
      exact hret hz hw rfl d_CT_isCell_29
    · rw [if_neg hc9] at h
      refine lv_iconst (v := 1) hx hb d_CT_isCell_24 (by decide) ?_
      refine lv_goto hx hb (tgt := 29) d_CT_isCell_25 (by decide) ?_
      have hz : ct_isB 1 = true := by decide
      obtain rfl := Option.some.inj h
      exact hret hz hw rfl d_CT_isCell_29

