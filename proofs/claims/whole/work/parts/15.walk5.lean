theorem d_CT_deviation_0 : decode c_CT_deviation 0 = .ok (.iload_n 1, 1) := by decide +kernel
theorem d_CT_deviation_1 : decode c_CT_deviation 1 = .ok (.iconst 0, 1) := by decide +kernel
theorem d_CT_deviation_2 : decode c_CT_deviation 2 = .ok (.aload_n 0, 1) := by decide +kernel
theorem d_CT_deviation_3 : decode c_CT_deviation 3 = .ok (.getfield 27, 3) := by decide +kernel
theorem d_CT_deviation_6 : decode c_CT_deviation 6 = .ok (.invokevirtual 104, 3) := by decide +kernel
theorem d_CT_deviation_9 : decode c_CT_deviation 9 = .ok (.iconst 2, 1) := by decide +kernel
theorem d_CT_deviation_10 : decode c_CT_deviation 10 = .ok (.isub, 1) := by decide +kernel
theorem d_CT_deviation_11 : decode c_CT_deviation 11 = .ok (.invokestatic 33, 3) := by decide +kernel
theorem d_CT_deviation_14 : decode c_CT_deviation 14 = .ok (.invokestatic 37, 3) := by decide +kernel
theorem d_CT_deviation_17 : decode c_CT_deviation 17 = .ok (.aload_n 0, 1) := by decide +kernel
theorem d_CT_deviation_18 : decode c_CT_deviation 18 = .ok (.getfield 19, 3) := by decide +kernel
theorem d_CT_deviation_21 : decode c_CT_deviation 21 = .ok (.iconst 0, 1) := by decide +kernel
theorem d_CT_deviation_22 : decode c_CT_deviation 22 = .ok (.invokevirtual 131, 3) := by decide +kernel
theorem d_CT_deviation_25 : decode c_CT_deviation 25 = .ok (.aload_n 0, 1) := by decide +kernel
theorem d_CT_deviation_26 : decode c_CT_deviation 26 = .ok (.getfield 19, 3) := by decide +kernel
theorem d_CT_deviation_29 : decode c_CT_deviation 29 = .ok (.iload_n 1, 1) := by decide +kernel
theorem d_CT_deviation_30 : decode c_CT_deviation 30 = .ok (.invokevirtual 170, 3) := by decide +kernel
theorem d_CT_deviation_33 : decode c_CT_deviation 33 = .ok (.aload_n 0, 1) := by decide +kernel
theorem d_CT_deviation_34 : decode c_CT_deviation 34 = .ok (.iload_n 2, 1) := by decide +kernel
theorem d_CT_deviation_35 : decode c_CT_deviation 35 = .ok (.invokevirtual 137, 3) := by decide +kernel
theorem d_CT_deviation_38 : decode c_CT_deviation 38 = .ok (.lreturn, 1) := by decide +kernel
set_option maxHeartbeats 4000000 in
set_option maxRecDepth 100000 in
theorem s_CT_deviation (l : Launch) (g : Gx) (ws0 : va_W) (sz : Nat) {s : CS} {a1 : Int32} {a2 : Int32} {res : ((Nat × CS) ⊕ (Int64 × CS))} (hR : cs_Rel g ws0 ws0 s) (hl0 : l.stackTraces = false) (h : fn_CT_deviation s a1 a2 = some res) : ct_XL l y_CT_deviation c_CT_deviation 3 (some .long) rm_CT_deviation g ws0 sz [.ref (g.2.1 0), .int a1, .int a2] res 2 12 := by
  refine ct_startXl hl0 (by decide +kernel) rfl (Nat.le_of_ble_eq_true rfl) (fun p e sv m args below meth c ls Q A H locs C0 hret hout hthr hl hw => ?_)
  have hx := C0.1
  have hb := C0.2.1
  have hown := C0.2.2.2.1
  have hts := C0.2.2.2.2.1
  have hl : lv_has ls 3 [(0, .ref (g.2.1 0)), (1, .int a1), (2, .int a2)] := hl
  unfold fn_CT_deviation at h
  obtain ⟨ws, hwe⟩ : ∃ z : va_W, z = ws0 := ⟨_, rfl⟩
  rw [← hwe] at hw
  have hR : cs_Rel g ws0 ws s := by rw [hwe]; exact hR
  clear hwe
  refine lv_iload_n hx hb d_CT_deviation_0 rfl (lv_at hl 1 rfl) ?_
  refine lv_iconst (v := 0) hx hb d_CT_deviation_1 (by decide) ?_
  refine lv_aload_n hx hb d_CT_deviation_2 rfl (lv_at hl 0 rfl) ?_
  refine gf_CT_27 C0 hw hR d_CT_deviation_3 ?_
  obtain ⟨x1, ho, h⟩ := ct_ob_some h
  refine ct_callVi C0 hw hl.1 (q0 := 2) (hR.1 2 (by decide)) rfl (ct_giV wd_423 wd_424 wd_425 wd_4 wd_426) (fun sz => s_Tr_shown l g ws sz hR.rf ho) (nA := 0) (rm := rm_Tr_shown) (by decide +kernel) rfl ⟨rfl, rfl⟩ (by decide) (by decide) (As := []) (rest := [.int 0, .int a1]) rfl (Nat.le_of_ble_eq_true rfl) d_CT_deviation_6 (fun ws1 H locs hw hp => ?_)
  rw [hp] at hw
  clear hp
  refine lv_iconst (v := 2) hx hb d_CT_deviation_9 (by decide) ?_
  refine lv_isub hx hb d_CT_deviation_10 ?_
  obtain ⟨x2, ho, h⟩ := ct_ob_some h
  refine ct_callSi C0 hw hl.1 (ct_giS wd_206 wd_207 wd_1 wd_208) (fun sz => s_CT_within l g ws sz ho) (nA := 3) (rm := rm_CT_within) (by decide +kernel) rfl ⟨rfl, rfl⟩ (by decide) (by decide) (As := [.int a1, .int 0, .int (x1 - 2)]) (rest := []) rfl (Nat.le_of_ble_eq_true rfl) d_CT_deviation_11 (fun ws1 H locs hw hp => ?_)
  rw [hp] at hw
  clear hp
  obtain ⟨o3, ho, h⟩ := ct_xb_some h
  refine ct_callSXv C0 hw hl.1 (ct_giS wd_209 wd_210 wd_1 wd_211) (fun sz => s_CT_check l g ws sz hR.rf hl0 ho) (nA := 1) (rm := rm_CT_check) (by decide +kernel) rfl ⟨rfl, rfl⟩ (by decide) (by decide) (As := [.int x2]) (rest := []) rfl (Nat.le_of_ble_eq_true rfl) d_CT_deviation_14 (fun E ce q9 ws1 H locs k9 s9 hw ho9 hE hp h1 h2 h3 => ?_) (fun ws1 H locs s9 hw ho9 hp => ?_)
  · subst ho9; obtain rfl := Option.some.inj h; exact hout hw rfl hE (hR.trans hp) h1 h2 h3 (by decide) (by decide)
  subst ho9
  have h := ct_xc_inr h
  have hR := hR.trans hp
  clear hp
  generalize ws1 = ws at hw hR
  generalize s9 = s4 at hR h
  refine lv_aload_n hx hb d_CT_deviation_17 rfl (lv_at hl 0 rfl) ?_
  refine gf_CT_19 C0 hw hR d_CT_deviation_18 ?_
  refine lv_iconst (v := 0) hx hb d_CT_deviation_21 (by decide) ?_
  obtain ⟨s5, ho, h⟩ := ct_ob_some h
  refine ct_callVv C0 hw hl.1 (q0 := 4) (hR.1 4 (by decide)) rfl (ct_giV wd_467 wd_468 wd_469 wd_3 wd_470) (fun sz => s_Re_prepare l g ws sz hR.rf ho) (nA := 1) (rm := rm_Re_prepare) (by decide +kernel) rfl ⟨rfl, rfl⟩ (by decide) (by decide) (As := [.int 0]) (rest := []) rfl (Nat.le_of_ble_eq_true rfl) d_CT_deviation_22 (fun ws1 H locs hw hp => ?_)
  have hR := hR.trans hp
  clear hp
  generalize ws1 = ws at hw hR
  refine lv_aload_n hx hb d_CT_deviation_25 rfl (lv_at hl 0 rfl) ?_
  refine gf_CT_19 C0 hw hR d_CT_deviation_26 ?_
  refine lv_iload_n hx hb d_CT_deviation_29 rfl (lv_at hl 1 rfl) ?_
  obtain ⟨s6, ho, h⟩ := ct_ob_some h
  refine ct_callVv C0 hw hl.1 (q0 := 4) (hR.1 4 (by decide)) rfl (ct_giV wd_657 wd_658 wd_659 wd_3 wd_660) (fun sz => s_Re_toDeviation l g ws sz hR.rf ho) (nA := 1) (rm := rm_Re_toDeviation) (by decide +kernel) rfl ⟨rfl, rfl⟩ (by decide) (by decide) (As := [.int a1]) (rest := []) rfl (Nat.le_of_ble_eq_true rfl) d_CT_deviation_30 (fun ws1 H locs hw hp => ?_)
  have hR := hR.trans hp
  clear hp
  generalize ws1 = ws at hw hR
  refine lv_aload_n hx hb d_CT_deviation_33 rfl (lv_at hl 0 rfl) ?_
  refine lv_iload_n hx hb d_CT_deviation_34 rfl (lv_at hl 2 rfl) ?_
  obtain ⟨o7, ho, h⟩ := ct_xb2_some h
  refine ct_callVXl C0 hw hl.1 (q0 := 0) (hR.1 0 (by decide)) rfl (ct_giV wd_489 wd_491 sel_CT_partOfAnswer wd_1 wd_492) (fun sz => s_CT_partOfAnswer l g ws sz hR.rf hl0 ho) (nA := 1) (rm := rm_CT_partOfAnswer) (by decide +kernel) rfl ⟨rfl, rfl⟩ (by decide) (by decide) (As := [.int a2]) (rest := []) rfl (Nat.le_of_ble_eq_true rfl) d_CT_deviation_35 (fun E ce q9 ws1 H locs k9 s9 hw ho9 hE hp h1 h2 h3 => ?_) (fun r9 ws1 H locs s9 hw ho9 hp => ?_)
  · subst ho9; obtain rfl := Option.some.inj h; exact hout hw rfl hE (hR.trans hp) h1 h2 h3 (by decide) (by decide)
  subst ho9
  have h := ct_xc_inr h
  try dsimp only at h
  have hR := hR.trans hp
  clear hp
  generalize ws1 = ws at hw hR
  generalize s9 = s8 at hR h
  generalize r9 = x9 at h ⊢
  obtain rfl := Option.some.inj h
  exact hret hw ⟨_, rfl, hR⟩ (by decide) (by decide) d_CT_deviation_38

theorem d_Re_toError_0 : decode c_Re_toError 0 = .ok (.aload_n 0, 1) := by decide +kernel
theorem d_Re_toError_1 : decode c_Re_toError 1 = .ok (.aload_n 0, 1) := by decide +kernel
theorem d_Re_toError_2 : decode c_Re_toError 2 = .ok (.getfield 12, 3) := by decide +kernel
theorem d_Re_toError_5 : decode c_Re_toError 5 = .ok (.invokevirtual 51, 3) := by decide +kernel
theorem d_Re_toError_8 : decode c_Re_toError 8 = .ok (.iconst 1, 1) := by decide +kernel
theorem d_Re_toError_9 : decode c_Re_toError 9 = .ok (.isub, 1) := by decide +kernel
theorem d_Re_toError_10 : decode c_Re_toError 10 = .ok (.iload_n 1, 1) := by decide +kernel
theorem d_Re_toError_11 : decode c_Re_toError 11 = .ok (.isub, 1) := by decide +kernel
theorem d_Re_toError_12 : decode c_Re_toError 12 = .ok (.aload_n 0, 1) := by decide +kernel
theorem d_Re_toError_13 : decode c_Re_toError 13 = .ok (.getfield 12, 3) := by decide +kernel
theorem d_Re_toError_16 : decode c_Re_toError 16 = .ok (.getfield 126, 3) := by decide +kernel
theorem d_Re_toError_19 : decode c_Re_toError 19 = .ok (.iconst 2, 1) := by decide +kernel
theorem d_Re_toError_20 : decode c_Re_toError 20 = .ok (.isub, 1) := by decide +kernel
theorem d_Re_toError_21 : decode c_Re_toError 21 = .ok (.iload_n 1, 1) := by decide +kernel
theorem d_Re_toError_22 : decode c_Re_toError 22 = .ok (.isub, 1) := by decide +kernel
theorem d_Re_toError_23 : decode c_Re_toError 23 = .ok (.invokevirtual 79, 3) := by decide +kernel
theorem d_Re_toError_26 : decode c_Re_toError 26 = .ok (.aload_n 0, 1) := by decide +kernel
theorem d_Re_toError_27 : decode c_Re_toError 27 = .ok (.getfield 34, 3) := by decide +kernel
theorem d_Re_toError_30 : decode c_Re_toError 30 = .ok (.aload_n 0, 1) := by decide +kernel
theorem d_Re_toError_31 : decode c_Re_toError 31 = .ok (.aload_n 0, 1) := by decide +kernel
theorem d_Re_toError_32 : decode c_Re_toError 32 = .ok (.getfield 12, 3) := by decide +kernel
theorem d_Re_toError_35 : decode c_Re_toError 35 = .ok (.iload_n 1, 1) := by decide +kernel
theorem d_Re_toError_36 : decode c_Re_toError 36 = .ok (.invokevirtual 91, 3) := by decide +kernel
theorem d_Re_toError_39 : decode c_Re_toError 39 = .ok (.i2l, 1) := by decide +kernel
theorem d_Re_toError_40 : decode c_Re_toError 40 = .ok (.invokevirtual 95, 3) := by decide +kernel
theorem d_Re_toError_43 : decode c_Re_toError 43 = .ok (.invokevirtual 85, 3) := by decide +kernel
theorem d_Re_toError_46 : decode c_Re_toError 46 = .ok (.aload_n 0, 1) := by decide +kernel
theorem d_Re_toError_47 : decode c_Re_toError 47 = .ok (.getfield 34, 3) := by decide +kernel
theorem d_Re_toError_50 : decode c_Re_toError 50 = .ok (.aload_n 0, 1) := by decide +kernel
theorem d_Re_toError_51 : decode c_Re_toError 51 = .ok (.aload_n 0, 1) := by decide +kernel
theorem d_Re_toError_52 : decode c_Re_toError 52 = .ok (.getfield 12, 3) := by decide +kernel
theorem d_Re_toError_55 : decode c_Re_toError 55 = .ok (.getfield 63, 3) := by decide +kernel
theorem d_Re_toError_58 : decode c_Re_toError 58 = .ok (.iload_n 1, 1) := by decide +kernel
theorem d_Re_toError_59 : decode c_Re_toError 59 = .ok (.aaload, 1) := by decide +kernel
theorem d_Re_toError_60 : decode c_Re_toError 60 = .ok (.aload_n 0, 1) := by decide +kernel
theorem d_Re_toError_61 : decode c_Re_toError 61 = .ok (.getfield 12, 3) := by decide +kernel
theorem d_Re_toError_64 : decode c_Re_toError 64 = .ok (.getfield 126, 3) := by decide +kernel
theorem d_Re_toError_67 : decode c_Re_toError 67 = .ok (.iconst 1, 1) := by decide +kernel
theorem d_Re_toError_68 : decode c_Re_toError 68 = .ok (.isub, 1) := by decide +kernel
theorem d_Re_toError_69 : decode c_Re_toError 69 = .ok (.iload_n 1, 1) := by decide +kernel
theorem d_Re_toError_70 : decode c_Re_toError 70 = .ok (.isub, 1) := by decide +kernel
theorem d_Re_toError_71 : decode c_Re_toError 71 = .ok (.iaload, 1) := by decide +kernel
theorem d_Re_toError_72 : decode c_Re_toError 72 = .ok (.ineg, 1) := by decide +kernel
theorem d_Re_toError_73 : decode c_Re_toError 73 = .ok (.i2l, 1) := by decide +kernel
theorem d_Re_toError_74 : decode c_Re_toError 74 = .ok (.invokevirtual 95, 3) := by decide +kernel
theorem d_Re_toError_77 : decode c_Re_toError 77 = .ok (.invokevirtual 102, 3) := by decide +kernel
theorem d_Re_toError_80 : decode c_Re_toError 80 = .ok (.return_, 1) := by decide +kernel
set_option maxHeartbeats 4000000 in
set_option maxRecDepth 100000 in
theorem s_Re_toError (l : Launch) (g : Gx) (ws0 : va_W) (sz : Nat) {s : CS} {a1 : Int32} {res : CS} (hR : cs_Rel g ws0 ws0 s) (h : fn_Re_toError s a1 = some res) : ct_MV l y_Re_toError c_Re_toError 2 none rm_Re_toError g ws0 sz [.ref (g.2.1 4), .int a1]  (fun u => cs_Rel g ws0 u res) := by
  refine ct_startv (by decide +kernel) (Nat.le_of_ble_eq_true rfl) (fun p e sv m args below meth c ls Q A H locs C0 hret hl hw => ?_)
  have hx := C0.1
  have hb := C0.2.1
  have hown := C0.2.2.2.1
  have hts := C0.2.2.2.2.1
  have hl : lv_has ls 2 [(0, .ref (g.2.1 4)), (1, .int a1)] := hl
  unfold fn_Re_toError at h
  obtain ⟨ws, hwe⟩ : ∃ z : va_W, z = ws0 := ⟨_, rfl⟩
  rw [← hwe] at hw
  have hR : cs_Rel g ws0 ws s := by rw [hwe]; exact hR
  clear hwe
  refine lv_aload_n hx hb d_Re_toError_0 rfl (lv_at hl 0 rfl) ?_
  refine lv_aload_n hx hb d_Re_toError_1 rfl (lv_at hl 0 rfl) ?_
  refine gf_Re_12 C0 hw hR d_Re_toError_2 ?_
  obtain ⟨x1, ho, h⟩ := ct_ob_some h
  refine ct_callVi C0 hw hl.1 (q0 := 2) (hR.1 2 (by decide)) rfl (ct_giV wd_471 wd_424 wd_425 wd_4 wd_426) (fun sz => s_Tr_shown l g ws sz hR.rf ho) (nA := 0) (rm := rm_Tr_shown) (by decide +kernel) rfl ⟨rfl, rfl⟩ (by decide) (by decide) (As := []) (rest := [.ref (g.2.1 4)]) rfl (Nat.le_of_ble_eq_true rfl) d_Re_toError_5 (fun ws1 H locs hw hp => ?_)
  rw [hp] at hw
  clear hp
  refine lv_iconst (v := 1) hx hb d_Re_toError_8 (by decide) ?_
  refine lv_isub hx hb d_Re_toError_9 ?_
  refine lv_iload_n hx hb d_Re_toError_10 rfl (lv_at hl 1 rfl) ?_
  refine lv_isub hx hb d_Re_toError_11 ?_
  refine lv_aload_n hx hb d_Re_toError_12 rfl (lv_at hl 0 rfl) ?_
  refine gf_Re_12 C0 hw hR d_Re_toError_13 ?_
  refine gf_Re_126 C0 hw hR d_Re_toError_16 ?_
  refine lv_iconst (v := 2) hx hb d_Re_toError_19 (by decide) ?_
  refine lv_isub hx hb d_Re_toError_20 ?_
  refine lv_iload_n hx hb d_Re_toError_21 rfl (lv_at hl 1 rfl) ?_
  refine lv_isub hx hb d_Re_toError_22 ?_
  obtain ⟨s2, ho, h⟩ := ct_ob_some h
  refine ct_callVv C0 hw hl.1 (q0 := 4) (hR.1 4 (by decide)) rfl (ct_giV wd_571 wd_573 sel_Re_chain wd_3 wd_574) (fun sz => s_Re_chain l g ws sz hR.rf ho) (nA := 2) (rm := rm_Re_chain) (by decide +kernel) rfl ⟨rfl, rfl⟩ (by decide) (by decide) (As := [.int ((x1 - 1) - a1), .int (((cs_I s 4) - 2) - a1)]) (rest := []) rfl (Nat.le_of_ble_eq_true rfl) d_Re_toError_23 (fun ws1 H locs hw hp => ?_)
  have hR := hR.trans hp
  clear hp
  generalize ws1 = ws at hw hR
  refine lv_aload_n hx hb d_Re_toError_26 rfl (lv_at hl 0 rfl) ?_
  refine gf_Re_34 C0 hw hR d_Re_toError_27 ?_
  refine lv_aload_n hx hb d_Re_toError_30 rfl (lv_at hl 0 rfl) ?_
  refine lv_aload_n hx hb d_Re_toError_31 rfl (lv_at hl 0 rfl) ?_
  refine gf_Re_12 C0 hw hR d_Re_toError_32 ?_
  refine lv_iload_n hx hb d_Re_toError_35 rfl (lv_at hl 1 rfl) ?_
  obtain ⟨x3, ho, h⟩ := ct_ob_some h
  refine ct_callVi C0 hw hl.1 (q0 := 2) (hR.1 2 (by decide)) rfl (ct_giV wd_596 wd_597 wd_598 wd_4 wd_599) (fun sz => s_Tr_latestOf l g ws sz hR.rf ho) (nA := 1) (rm := rm_Tr_latestOf) (by decide +kernel) rfl ⟨rfl, rfl⟩ (by decide) (by decide) (As := [.int a1]) (rest := [.ref (g.2.1 4), .ref (g.2.1 31)]) rfl (Nat.le_of_ble_eq_true rfl) d_Re_toError_36 (fun ws1 H locs hw hp => ?_)
  rw [hp] at hw
  clear hp
  refine lv_i2l hx hb d_Re_toError_39 rfl ?_
  obtain ⟨x4, s5, ho, h⟩ := ct_ob2_some h
  refine ct_callVr C0 hw hl.1 (q0 := 4) (hR.1 4 (by decide)) rfl (ct_giV wd_587 wd_589 sel_Re_asWhole wd_3 wd_590) (fun sz => s_Re_asWhole l g ws sz hR.rf ho) (nA := 1) (rm := rm_Re_asWhole) (by decide +kernel) rfl ⟨rfl, rfl⟩ (by decide) (by decide) (As := [.long x3.toInt64]) (rest := [.ref (g.2.1 31)]) rfl (Nat.le_of_ble_eq_true rfl) d_Re_toError_40 (fun ws1 H locs hw hp => ?_)
  have hR := hR.trans hp
  clear hp
  generalize ws1 = ws at hw hR
  have hx4 : x4 < 12 := lt_Re_asWhole ho
  obtain ⟨s6, ho, h⟩ := ct_ob_some h
  refine ct_callVv C0 hw hl.1 (hR.F (f := 8) (by decide)) rfl (ct_giV wd_560 wd_561 wd_562 wd_6 wd_563) (fun sz => s_Fr_times l g ws sz hR.rf (by decide) hx4 ho) (nA := 1) (rm := rm_Fr_times) (by decide +kernel) rfl ⟨rfl, rfl⟩ (by decide) (by decide) (As := [.ref (g.2.1 (23 + x4))]) (rest := []) rfl (Nat.le_of_ble_eq_true rfl) d_Re_toError_43 (fun ws1 H locs hw hp => ?_)
  have hR := hR.trans hp
  clear hp
  generalize ws1 = ws at hw hR
  refine lv_aload_n hx hb d_Re_toError_46 rfl (lv_at hl 0 rfl) ?_
  refine gf_Re_34 C0 hw hR d_Re_toError_47 ?_
  refine lv_aload_n hx hb d_Re_toError_50 rfl (lv_at hl 0 rfl) ?_
  refine lv_aload_n hx hb d_Re_toError_51 rfl (lv_at hl 0 rfl) ?_
  refine gf_Re_12 C0 hw hR d_Re_toError_52 ?_
  refine gf_Re_63 C0 hw hR d_Re_toError_55 ?_
  refine lv_iload_n hx hb d_Re_toError_58 rfl (lv_at hl 1 rfl) ?_
  obtain ⟨hg59, h⟩ := ct_gd_some h
  refine ct_ldoc C0 hw hR (ct_inR_vp hg59) d_Re_toError_59 ?_
  refine lv_aload_n hx hb d_Re_toError_60 rfl (lv_at hl 0 rfl) ?_
  refine gf_Re_12 C0 hw hR d_Re_toError_61 ?_
  refine gf_Re_126 C0 hw hR d_Re_toError_64 ?_
  refine lv_iconst (v := 1) hx hb d_Re_toError_67 (by decide) ?_
  refine lv_isub hx hb d_Re_toError_68 ?_
  refine lv_iload_n hx hb d_Re_toError_69 rfl (lv_at hl 1 rfl) ?_
  refine lv_isub hx hb d_Re_toError_70 ?_
  obtain ⟨hg71, h⟩ := ct_gd_some h
  refine ct_ldrw C0 hw hR (ct_inR_lt hg59) (ct_inR_vp hg71) d_Re_toError_71 ?_
  refine lv_ineg hx hb d_Re_toError_72 ?_
  refine lv_i2l hx hb d_Re_toError_73 rfl ?_
  obtain ⟨x7, s8, ho, h⟩ := ct_ob2_some h
  refine ct_callVr C0 hw hl.1 (q0 := 4) (hR.1 4 (by decide)) rfl (ct_giV wd_587 wd_589 sel_Re_asWhole wd_3 wd_590) (fun sz => s_Re_asWhole l g ws sz hR.rf ho) (nA := 1) (rm := rm_Re_asWhole) (by decide +kernel) rfl ⟨rfl, rfl⟩ (by decide) (by decide) (As := [.long ((-(cs_R s6 a1.toNatClampNeg (((cs_I s6 4) - 1) - a1).toNatClampNeg)).toInt64)]) (rest := [.ref (g.2.1 31)]) rfl (Nat.le_of_ble_eq_true rfl) d_Re_toError_74 (fun ws1 H locs hw hp => ?_)
  have hR := hR.trans hp
  clear hp
  generalize ws1 = ws at hw hR
  have hx7 : x7 < 12 := lt_Re_asWhole ho
  obtain ⟨s9, ho, h⟩ := ct_ob_some h
  refine ct_callVv C0 hw hl.1 (hR.F (f := 8) (by decide)) rfl (ct_giV wd_591 wd_592 wd_593 wd_6 wd_594) (fun sz => s_Fr_plus l g ws sz hR.rf (by decide) hx7 ho) (nA := 1) (rm := rm_Fr_plus) (by decide +kernel) rfl ⟨rfl, rfl⟩ (by decide) (by decide) (As := [.ref (g.2.1 (23 + x7))]) (rest := []) rfl (Nat.le_of_ble_eq_true rfl) d_Re_toError_77 (fun ws1 H locs hw hp => ?_)
  have hR := hR.trans hp
  clear hp
  generalize ws1 = ws at hw hR
  obtain rfl := Option.some.inj h
  exact hret hw hR d_Re_toError_80

theorem d_CT_error_0 : decode c_CT_error 0 = .ok (.iload_n 1, 1) := by decide +kernel
theorem d_CT_error_1 : decode c_CT_error 1 = .ok (.invokestatic 128, 3) := by decide +kernel
theorem d_CT_error_4 : decode c_CT_error 4 = .ok (.ifCond .eq 30, 3) := by decide +kernel
theorem d_CT_error_7 : decode c_CT_error 7 = .ok (.iload_n 2, 1) := by decide +kernel
theorem d_CT_error_8 : decode c_CT_error 8 = .ok (.aload_n 0, 1) := by decide +kernel
theorem d_CT_error_9 : decode c_CT_error 9 = .ok (.getfield 27, 3) := by decide +kernel
theorem d_CT_error_12 : decode c_CT_error 12 = .ok (.getfield 125, 3) := by decide +kernel
theorem d_CT_error_15 : decode c_CT_error 15 = .ok (.aload_n 0, 1) := by decide +kernel
theorem d_CT_error_16 : decode c_CT_error 16 = .ok (.getfield 27, 3) := by decide +kernel
theorem d_CT_error_19 : decode c_CT_error 19 = .ok (.invokevirtual 104, 3) := by decide +kernel
theorem d_CT_error_22 : decode c_CT_error 22 = .ok (.iconst 1, 1) := by decide +kernel
theorem d_CT_error_23 : decode c_CT_error 23 = .ok (.isub, 1) := by decide +kernel
theorem d_CT_error_24 : decode c_CT_error 24 = .ok (.invokestatic 33, 3) := by decide +kernel
theorem d_CT_error_27 : decode c_CT_error 27 = .ok (.ifCond .eq 7, 3) := by decide +kernel
theorem d_CT_error_30 : decode c_CT_error 30 = .ok (.iconst 1, 1) := by decide +kernel
theorem d_CT_error_31 : decode c_CT_error 31 = .ok (.goto 4, 3) := by decide +kernel
theorem d_CT_error_34 : decode c_CT_error 34 = .ok (.iconst 0, 1) := by decide +kernel
theorem d_CT_error_35 : decode c_CT_error 35 = .ok (.invokestatic 37, 3) := by decide +kernel
theorem d_CT_error_38 : decode c_CT_error 38 = .ok (.aload_n 0, 1) := by decide +kernel
theorem d_CT_error_39 : decode c_CT_error 39 = .ok (.getfield 19, 3) := by decide +kernel
theorem d_CT_error_42 : decode c_CT_error 42 = .ok (.iload_n 1, 1) := by decide +kernel
theorem d_CT_error_43 : decode c_CT_error 43 = .ok (.invokevirtual 131, 3) := by decide +kernel
theorem d_CT_error_46 : decode c_CT_error 46 = .ok (.aload_n 0, 1) := by decide +kernel
theorem d_CT_error_47 : decode c_CT_error 47 = .ok (.getfield 19, 3) := by decide +kernel
theorem d_CT_error_50 : decode c_CT_error 50 = .ok (.iload_n 2, 1) := by decide +kernel
theorem d_CT_error_51 : decode c_CT_error 51 = .ok (.invokevirtual 173, 3) := by decide +kernel
theorem d_CT_error_54 : decode c_CT_error 54 = .ok (.aload_n 0, 1) := by decide +kernel
theorem d_CT_error_55 : decode c_CT_error 55 = .ok (.iload_n 3, 1) := by decide +kernel
theorem d_CT_error_56 : decode c_CT_error 56 = .ok (.invokevirtual 137, 3) := by decide +kernel
theorem d_CT_error_59 : decode c_CT_error 59 = .ok (.lreturn, 1) := by decide +kernel
set_option maxHeartbeats 4000000 in
set_option maxRecDepth 100000 in
theorem s_CT_error (l : Launch) (g : Gx) (ws0 : va_W) (sz : Nat) {s : CS} {a1 : Int32} {a2 : Int32} {a3 : Int32} {res : ((Nat × CS) ⊕ (Int64 × CS))} (hR : cs_Rel g ws0 ws0 s) (hl0 : l.stackTraces = false) (h : fn_CT_error s a1 a2 a3 = some res) : ct_XL l y_CT_error c_CT_error 4 (some .long) rm_CT_error g ws0 sz [.ref (g.2.1 0), .int a1, .int a2, .int a3] res 2 12 := by
  refine ct_startXl hl0 (by decide +kernel) rfl (Nat.le_of_ble_eq_true rfl) (fun p e sv m args below meth c ls Q A H locs C0 hret hout hthr hl hw => ?_)
  have hx := C0.1
  have hb := C0.2.1
  have hown := C0.2.2.2.1
  have hts := C0.2.2.2.2.1
  have hl : lv_has ls 4 [(0, .ref (g.2.1 0)), (1, .int a1), (2, .int a2), (3, .int a3)] := hl
  have J35 : ∀ (ws : va_W) (H : Heap) (locs : List Loc) (ls : Array Slot) (s : CS) (t0 : Int32), ct_Wd g A sv ws H locs → cs_Rel g ws0 ws s → lv_has ls 4 [(0, .ref (g.2.1 0)), (1, .int a1), (2, .int a2), (3, .int a3)] → bk_CT_error_35 a1 a2 a3 s t0 = some res → W p l e rm_CT_error sv m args below meth c H locs 0 0 Q (F0 m 35 ls [.int t0]) := by
    intro ws H locs ls s t0 hw hR hl h
    unfold bk_CT_error_35 at h
    obtain ⟨o1, ho, h⟩ := ct_xb_some h
    refine ct_callSXv C0 hw hl.1 (ct_giS wd_209 wd_210 wd_1 wd_211) (fun sz => s_CT_check l g ws sz hR.rf hl0 ho) (nA := 1) (rm := rm_CT_check) (by decide +kernel) rfl ⟨rfl, rfl⟩ (by decide) (by decide) (As := [.int t0]) (rest := []) rfl (Nat.le_of_ble_eq_true rfl) d_CT_error_35 (fun E ce q9 ws1 H locs k9 s9 hw ho9 hE hp h1 h2 h3 => ?_) (fun ws1 H locs s9 hw ho9 hp => ?_)
    · subst ho9; obtain rfl := Option.some.inj h; exact hout hw rfl hE (hR.trans hp) h1 h2 h3 (by decide) (by decide)
    subst ho9
    have h := ct_xc_inr h
    have hR := hR.trans hp
    clear hp
    generalize ws1 = ws at hw hR
    generalize s9 = s2 at hR h
    refine lv_aload_n hx hb d_CT_error_38 rfl (lv_at hl 0 rfl) ?_
    refine gf_CT_19 C0 hw hR d_CT_error_39 ?_
    refine lv_iload_n hx hb d_CT_error_42 rfl (lv_at hl 1 rfl) ?_
    obtain ⟨s3, ho, h⟩ := ct_ob_some h
    refine ct_callVv C0 hw hl.1 (q0 := 4) (hR.1 4 (by decide)) rfl (ct_giV wd_467 wd_468 wd_469 wd_3 wd_470) (fun sz => s_Re_prepare l g ws sz hR.rf ho) (nA := 1) (rm := rm_Re_prepare) (by decide +kernel) rfl ⟨rfl, rfl⟩ (by decide) (by decide) (As := [.int a1]) (rest := []) rfl (Nat.le_of_ble_eq_true rfl) d_CT_error_43 (fun ws1 H locs hw hp => ?_)
    have hR := hR.trans hp
    clear hp
    generalize ws1 = ws at hw hR
    refine lv_aload_n hx hb d_CT_error_46 rfl (lv_at hl 0 rfl) ?_
    refine gf_CT_19 C0 hw hR d_CT_error_47 ?_
    refine lv_iload_n hx hb d_CT_error_50 rfl (lv_at hl 2 rfl) ?_
    obtain ⟨s4, ho, h⟩ := ct_ob_some h
    refine ct_callVv C0 hw hl.1 (q0 := 4) (hR.1 4 (by decide)) rfl (ct_giV wd_673 wd_674 wd_675 wd_3 wd_676) (fun sz => s_Re_toError l g ws sz hR.rf ho) (nA := 1) (rm := rm_Re_toError) (by decide +kernel) rfl ⟨rfl, rfl⟩ (by decide) (by decide) (As := [.int a2]) (rest := []) rfl (Nat.le_of_ble_eq_true rfl) d_CT_error_51 (fun ws1 H locs hw hp => ?_)
    have hR := hR.trans hp
    clear hp
    generalize ws1 = ws at hw hR
    refine lv_aload_n hx hb d_CT_error_54 rfl (lv_at hl 0 rfl) ?_
    refine lv_iload_n hx hb d_CT_error_55 rfl (lv_at hl 3 rfl) ?_
    obtain ⟨o5, ho, h⟩ := ct_xb2_some h
    refine ct_callVXl C0 hw hl.1 (q0 := 0) (hR.1 0 (by decide)) rfl (ct_giV wd_489 wd_491 sel_CT_partOfAnswer wd_1 wd_492) (fun sz => s_CT_partOfAnswer l g ws sz hR.rf hl0 ho) (nA := 1) (rm := rm_CT_partOfAnswer) (by decide +kernel) rfl ⟨rfl, rfl⟩ (by decide) (by decide) (As := [.int a3]) (rest := []) rfl (Nat.le_of_ble_eq_true rfl) d_CT_error_56 (fun E ce q9 ws1 H locs k9 s9 hw ho9 hE hp h1 h2 h3 => ?_) (fun r9 ws1 H locs s9 hw ho9 hp => ?_)
    · subst ho9; obtain rfl := Option.some.inj h; exact hout hw rfl hE (hR.trans hp) h1 h2 h3 (by decide) (by decide)
    subst ho9
    have h := ct_xc_inr h
    try dsimp only at h
    have hR := hR.trans hp
    clear hp
    generalize ws1 = ws at hw hR
    generalize s9 = s6 at hR h
    generalize r9 = x7 at h ⊢
    obtain rfl := Option.some.inj h
    exact hret hw ⟨_, rfl, hR⟩ (by decide) (by decide) d_CT_error_59
  unfold fn_CT_error at h
  obtain ⟨ws, hwe⟩ : ∃ z : va_W, z = ws0 := ⟨_, rfl⟩
  rw [← hwe] at hw
  have hR : cs_Rel g ws0 ws s := by rw [hwe]; exact hR
  clear hwe
  refine lv_iload_n hx hb d_CT_error_0 rfl (lv_at hl 1 rfl) ?_
  obtain ⟨x8, ho, h⟩ := ct_ob_some h
  refine ct_callSi C0 hw hl.1 (ct_giS wd_464 wd_465 wd_1 wd_466) (fun sz => s_CT_isChain l g ws sz ho) (nA := 1) (rm := rm_CT_isChain) (by decide +kernel) rfl ⟨rfl, rfl⟩ (by decide) (by decide) (As := [.int a1]) (rest := []) rfl (Nat.le_of_ble_eq_true rfl) d_CT_error_1 (fun ws1 H locs hw hp => ?_)
  rw [hp] at hw
  clear hp
  refine lv_if_eq hx hb (tgt := 34) d_CT_error_4 (by decide) (fun hc9 => ?_) (fun hc9 => ?_)
  · rw [if_pos hc9] at h
    refine lv_iconst (v := 0) hx hb d_CT_error_34 (by decide) ?_
    exact J35 ws H locs ls s 0 hw hR (lv_sub hl [0, 1, 2, 3] rfl) h
  · rw [if_neg hc9] at h
    refine lv_iload_n hx hb d_CT_error_7 rfl (lv_at hl 2 rfl) ?_
    refine lv_aload_n hx hb d_CT_error_8 rfl (lv_at hl 0 rfl) ?_
    refine gf_CT_27 C0 hw hR d_CT_error_9 ?_
    refine gf_CT_125 C0 hw hR d_CT_error_12 ?_
    refine lv_aload_n hx hb d_CT_error_15 rfl (lv_at hl 0 rfl) ?_
    refine gf_CT_27 C0 hw hR d_CT_error_16 ?_
    obtain ⟨x9, ho, h⟩ := ct_ob_some h
    refine ct_callVi C0 hw hl.1 (q0 := 2) (hR.1 2 (by decide)) rfl (ct_giV wd_423 wd_424 wd_425 wd_4 wd_426) (fun sz => s_Tr_shown l g ws sz hR.rf ho) (nA := 0) (rm := rm_Tr_shown) (by decide +kernel) rfl ⟨rfl, rfl⟩ (by decide) (by decide) (As := []) (rest := [.int (cs_I s 5), .int a2]) rfl (Nat.le_of_ble_eq_true rfl) d_CT_error_19 (fun ws1 H locs hw hp => ?_)
    rw [hp] at hw
    clear hp
    refine lv_iconst (v := 1) hx hb d_CT_error_22 (by decide) ?_
    refine lv_isub hx hb d_CT_error_23 ?_
    obtain ⟨x10, ho, h⟩ := ct_ob_some h
    refine ct_callSi C0 hw hl.1 (ct_giS wd_206 wd_207 wd_1 wd_208) (fun sz => s_CT_within l g ws sz ho) (nA := 3) (rm := rm_CT_within) (by decide +kernel) rfl ⟨rfl, rfl⟩ (by decide) (by decide) (As := [.int a2, .int (cs_I s 5), .int (x9 - 1)]) (rest := []) rfl (Nat.le_of_ble_eq_true rfl) d_CT_error_24 (fun ws1 H locs hw hp => ?_)
    rw [hp] at hw
    clear hp
    refine lv_if_eq hx hb (tgt := 34) d_CT_error_27 (by decide) (fun hc9 => ?_) (fun hc9 => ?_)
    · rw [if_pos hc9] at h
      refine lv_iconst (v := 0) hx hb d_CT_error_34 (by decide) ?_
      exact J35 ws H locs ls s 0 hw hR (lv_sub hl [0, 1, 2, 3] rfl) h
    · rw [if_neg hc9] at h
      refine lv_iconst (v := 1) hx hb d_CT_error_30 (by decide) ?_
      refine lv_goto hx hb (tgt := 35) d_CT_error_31 (by decide) ?_
      exact J35 ws H locs ls s 1 hw hR (lv_sub hl [0, 1, 2, 3] rfl) h

theorem d_Tr_growth_0 : decode c_Tr_growth 0 = .ok (.iconst 0, 1) := by decide +kernel
theorem d_Tr_growth_1 : decode c_Tr_growth 1 = .ok (.istore_n 2, 1) := by decide +kernel
theorem d_Tr_growth_2 : decode c_Tr_growth 2 = .ok (.iconst 0, 1) := by decide +kernel
theorem d_Tr_growth_3 : decode c_Tr_growth 3 = .ok (.istore_n 3, 1) := by decide +kernel
theorem d_Tr_growth_4 : decode c_Tr_growth 4 = .ok (.iload_n 3, 1) := by decide +kernel
theorem d_Tr_growth_5 : decode c_Tr_growth 5 = .ok (.iload_n 1, 1) := by decide +kernel
theorem d_Tr_growth_6 : decode c_Tr_growth 6 = .ok (.if_icmp .gt 54, 3) := by decide +kernel
theorem d_Tr_growth_9 : decode c_Tr_growth 9 = .ok (.iload_n 1, 1) := by decide +kernel
theorem d_Tr_growth_10 : decode c_Tr_growth 10 = .ok (.iload_n 3, 1) := by decide +kernel
theorem d_Tr_growth_11 : decode c_Tr_growth 11 = .ok (.isub, 1) := by decide +kernel
theorem d_Tr_growth_12 : decode c_Tr_growth 12 = .ok (.istore 4, 2) := by decide +kernel
theorem d_Tr_growth_14 : decode c_Tr_growth 14 = .ok (.iload_n 2, 1) := by decide +kernel
theorem d_Tr_growth_15 : decode c_Tr_growth 15 = .ok (.iload 4, 2) := by decide +kernel
theorem d_Tr_growth_17 : decode c_Tr_growth 17 = .ok (.ifCond .ne 14, 3) := by decide +kernel
theorem d_Tr_growth_20 : decode c_Tr_growth 20 = .ok (.aload_n 0, 1) := by decide +kernel
theorem d_Tr_growth_21 : decode c_Tr_growth 21 = .ok (.getfield 11, 3) := by decide +kernel
theorem d_Tr_growth_24 : decode c_Tr_growth 24 = .ok (.iload_n 3, 1) := by decide +kernel
theorem d_Tr_growth_25 : decode c_Tr_growth 25 = .ok (.aaload, 1) := by decide +kernel
theorem d_Tr_growth_26 : decode c_Tr_growth 26 = .ok (.iconst 0, 1) := by decide +kernel
theorem d_Tr_growth_27 : decode c_Tr_growth 27 = .ok (.iaload, 1) := by decide +kernel
theorem d_Tr_growth_28 : decode c_Tr_growth 28 = .ok (.goto 24, 3) := by decide +kernel
theorem d_Tr_growth_31 : decode c_Tr_growth 31 = .ok (.aload_n 0, 1) := by decide +kernel
theorem d_Tr_growth_32 : decode c_Tr_growth 32 = .ok (.getfield 11, 3) := by decide +kernel
theorem d_Tr_growth_35 : decode c_Tr_growth 35 = .ok (.iload_n 3, 1) := by decide +kernel
theorem d_Tr_growth_36 : decode c_Tr_growth 36 = .ok (.aaload, 1) := by decide +kernel
theorem d_Tr_growth_37 : decode c_Tr_growth 37 = .ok (.iload 4, 2) := by decide +kernel
theorem d_Tr_growth_39 : decode c_Tr_growth 39 = .ok (.iaload, 1) := by decide +kernel
theorem d_Tr_growth_40 : decode c_Tr_growth 40 = .ok (.aload_n 0, 1) := by decide +kernel
theorem d_Tr_growth_41 : decode c_Tr_growth 41 = .ok (.getfield 11, 3) := by decide +kernel
theorem d_Tr_growth_44 : decode c_Tr_growth 44 = .ok (.iload_n 3, 1) := by decide +kernel
theorem d_Tr_growth_45 : decode c_Tr_growth 45 = .ok (.aaload, 1) := by decide +kernel
theorem d_Tr_growth_46 : decode c_Tr_growth 46 = .ok (.iload 4, 2) := by decide +kernel
theorem d_Tr_growth_48 : decode c_Tr_growth 48 = .ok (.iconst 1, 1) := by decide +kernel
theorem d_Tr_growth_49 : decode c_Tr_growth 49 = .ok (.isub, 1) := by decide +kernel
theorem d_Tr_growth_50 : decode c_Tr_growth 50 = .ok (.iaload, 1) := by decide +kernel
theorem d_Tr_growth_51 : decode c_Tr_growth 51 = .ok (.isub, 1) := by decide +kernel
theorem d_Tr_growth_52 : decode c_Tr_growth 52 = .ok (.iadd, 1) := by decide +kernel
theorem d_Tr_growth_53 : decode c_Tr_growth 53 = .ok (.istore_n 2, 1) := by decide +kernel
theorem d_Tr_growth_54 : decode c_Tr_growth 54 = .ok (.iinc 3 1, 3) := by decide +kernel
theorem d_Tr_growth_57 : decode c_Tr_growth 57 = .ok (.goto (-53), 3) := by decide +kernel
theorem d_Tr_growth_60 : decode c_Tr_growth 60 = .ok (.iload_n 2, 1) := by decide +kernel
theorem d_Tr_growth_61 : decode c_Tr_growth 61 = .ok (.ireturn, 1) := by decide +kernel
set_option maxHeartbeats 4000000 in
set_option maxRecDepth 100000 in
theorem s_Tr_growth (l : Launch) (g : Gx) (ws0 : va_W) (sz : Nat) {s : CS} {a1 : Int32} {res : Int32} (hR : cs_Rel g ws0 ws0 s) (h : fn_Tr_growth s a1 = some res) : ct_MI l y_Tr_growth c_Tr_growth 5 (some .int) rm_Tr_growth g ws0 sz [.ref (g.2.1 2), .int a1] res (fun u => u = ws0) := by
  refine ct_starti (by decide +kernel) (Nat.le_of_ble_eq_true rfl) (fun p e sv m args below meth c ls Q A H locs C0 hret hl hw => ?_)
  have hx := C0.1
  have hb := C0.2.1
  have hown := C0.2.2.2.1
  have hts := C0.2.2.2.2.1
  have hl : lv_has ls 5 [(0, .ref (g.2.1 2)), (1, .int a1)] := hl
  have L4 : ∀ (n4 : Nat) (H : Heap) (locs : List Loc) (ls : Array Slot) (s : CS) (v2 : Int32) (v3 : Int32), ct_Wd g A sv ws0 H locs → cs_Rel g ws0 ws0 s → lv_has ls 5 [(0, .ref (g.2.1 2)), (1, .int a1), (2, .int v2), (3, .int v3)] → bk_Tr_growth_4 a1 n4 s v2 v3 = some res → W p l e rm_Tr_growth sv m args below meth c H locs 0 0 Q (F0 m 4 ls []) := by
    intro n4
    induction n4 with
    | zero =>
      intro H locs ls s v2 v3 hw hR hl h
      exact absurd h (by simp [bk_Tr_growth_4])
    | succ n4 ih4 =>
      have J52 : ∀ (H : Heap) (locs : List Loc) (ls : Array Slot) (s : CS) (t0 : Int32) (t1 : Int32) (v3 : Int32), ct_Wd g A sv ws0 H locs → cs_Rel g ws0 ws0 s → lv_has ls 5 [(0, .ref (g.2.1 2)), (1, .int a1), (3, .int v3)] → bk_Tr_growth_52 a1 (bk_Tr_growth_4 a1 n4) s t0 t1 v3 = some res → W p l e rm_Tr_growth sv m args below meth c H locs 0 0 Q (F0 m 52 ls [.int t1, .int t0]) := by
        intro H locs ls s t0 t1 v3 hw hR hl h
        unfold bk_Tr_growth_52 at h
        refine lv_iadd hx hb d_Tr_growth_52 ?_
        refine lv_topi (fun x1 e9 => ?_)
        have h := ct_nm_at h e9
        clear e9
        refine lv_istore_n (lv' := [(2, .int x1), (0, .ref (g.2.1 2)), (1, .int a1), (3, .int v3)]) hx hb d_Tr_growth_53 rfl hl (by decide) rfl (fun ls hl => ?_)
        refine lv_iinc (v := v3 + 1) (k := 3) (lv' := [(3, .int (v3 + 1)), (2, .int x1), (0, .ref (g.2.1 2)), (1, .int a1)]) hx hb d_Tr_growth_54 hl rfl rfl (by decide) rfl (fun ls hl => ?_)
        refine lv_goto hx hb (tgt := 4) d_Tr_growth_57 (by decide) ?_
        exact ih4 H locs ls s x1 (v3 + 1) hw hR (lv_sub hl [2, 3, 1, 0] rfl) h
      intro H locs ls s v2 v3 hw hR hl h
      have h : bk_Tr_growth_4_o a1 (bk_Tr_growth_4 a1 n4) s v2 v3 = some res := h
      unfold bk_Tr_growth_4_o at h
      refine lv_iload_n hx hb d_Tr_growth_4 rfl (lv_at hl 3 rfl) ?_
      refine lv_iload_n hx hb d_Tr_growth_5 rfl (lv_at hl 1 rfl) ?_
      refine lv_icmp_gt hx hb (tgt := 60) d_Tr_growth_6 (by decide) (fun hc9 => ?_) (fun hc9 => ?_)
      · rw [if_pos hc9] at h
        refine lv_iload_n hx hb d_Tr_growth_60 rfl (lv_at hl 2 rfl) ?_
        obtain rfl := Option.some.inj h
        exact hret hw rfl d_Tr_growth_61
      · rw [if_neg hc9] at h
        refine lv_iload_n hx hb d_Tr_growth_9 rfl (lv_at hl 1 rfl) ?_
        refine lv_iload_n hx hb d_Tr_growth_10 rfl (lv_at hl 3 rfl) ?_
        refine lv_isub hx hb d_Tr_growth_11 ?_
        refine lv_topi (fun x2 e9 => ?_)
        have h := ct_nm_at h e9
        clear e9
        refine lv_istore (lv' := [(4, .int x2), (0, .ref (g.2.1 2)), (1, .int a1), (2, .int v2), (3, .int v3)]) hx hb d_Tr_growth_12 hl (by decide) rfl (fun ls hl => ?_)
        refine lv_iload_n hx hb d_Tr_growth_14 rfl (lv_at hl 3 rfl) ?_
        refine lv_iload hx hb d_Tr_growth_15 (lv_at hl 0 rfl) ?_
        refine lv_if_ne hx hb (tgt := 31) d_Tr_growth_17 (by decide) (fun hc9 => ?_) (fun hc9 => ?_)
        · rw [if_pos hc9] at h
          refine lv_aload_n hx hb d_Tr_growth_31 rfl (lv_at hl 1 rfl) ?_
          refine gf_Tr_11 C0 hw hR d_Tr_growth_32 ?_
          refine lv_iload_n hx hb d_Tr_growth_35 rfl (lv_at hl 4 rfl) ?_
          obtain ⟨hg36, h⟩ := ct_gd_some h
          refine ct_ldoc C0 hw hR (ct_inR_vp hg36) d_Tr_growth_36 ?_
          refine lv_iload hx hb d_Tr_growth_37 (lv_at hl 0 rfl) ?_
          obtain ⟨hg39, h⟩ := ct_gd_some h
          refine ct_ldrw C0 hw hR (ct_inR_lt hg36) (ct_inR_vp hg39) d_Tr_growth_39 ?_
          refine lv_aload_n hx hb d_Tr_growth_40 rfl (lv_at hl 1 rfl) ?_
          refine gf_Tr_11 C0 hw hR d_Tr_growth_41 ?_
          refine lv_iload_n hx hb d_Tr_growth_44 rfl (lv_at hl 4 rfl) ?_
          obtain ⟨hg45, h⟩ := ct_gd_some h
          refine ct_ldoc C0 hw hR (ct_inR_vp hg45) d_Tr_growth_45 ?_
          refine lv_iload hx hb d_Tr_growth_46 (lv_at hl 0 rfl) ?_
          refine lv_iconst (v := 1) hx hb d_Tr_growth_48 (by decide) ?_
          refine lv_isub hx hb d_Tr_growth_49 ?_
          obtain ⟨hg50, h⟩ := ct_gd_some h
          refine ct_ldrw C0 hw hR (ct_inR_lt hg45) (ct_inR_vp hg50) d_Tr_growth_50 ?_
          refine lv_isub hx hb d_Tr_growth_51 ?_
          exact J52 H locs ls s v2 ((cs_R s v3.toNatClampNeg x2.toNatClampNeg) - (cs_R s v3.toNatClampNeg (x2 - 1).toNatClampNeg)) v3 hw hR (lv_sub hl [1, 2, 4] rfl) h
        · rw [if_neg (fun q => q hc9)] at h
          refine lv_aload_n hx hb d_Tr_growth_20 rfl (lv_at hl 1 rfl) ?_
          refine gf_Tr_11 C0 hw hR d_Tr_growth_21 ?_
          refine lv_iload_n hx hb d_Tr_growth_24 rfl (lv_at hl 4 rfl) ?_
          obtain ⟨hg25, h⟩ := ct_gd_some h
          refine ct_ldoc C0 hw hR (ct_inR_vp hg25) d_Tr_growth_25 ?_
          refine lv_iconst (v := 0) hx hb d_Tr_growth_26 (by decide) ?_
          obtain ⟨hg27, h⟩ := ct_gd_some h
          refine ct_ldrw C0 hw hR (ct_inR_lt hg25) (ct_inR_vp hg27) d_Tr_growth_27 ?_
          refine lv_goto hx hb (tgt := 52) d_Tr_growth_28 (by decide) ?_
          exact J52 H locs ls s v2 (cs_R s v3.toNatClampNeg (0 : Int32).toNatClampNeg) v3 hw hR (lv_sub hl [1, 2, 4] rfl) h
  unfold fn_Tr_growth at h
  refine lv_iconst (v := 0) hx hb d_Tr_growth_0 (by decide) ?_
  refine lv_istore_n (lv' := [(2, .int 0), (0, .ref (g.2.1 2)), (1, .int a1)]) hx hb d_Tr_growth_1 rfl hl (by decide) rfl (fun ls hl => ?_)
  refine lv_iconst (v := 0) hx hb d_Tr_growth_2 (by decide) ?_
  refine lv_istore_n (lv' := [(3, .int 0), (2, .int 0), (0, .ref (g.2.1 2)), (1, .int a1)]) hx hb d_Tr_growth_3 rfl hl (by decide) rfl (fun ls hl => ?_)
  exact L4 200 H locs ls s 0 0 hw hR (lv_sub hl [2, 3, 1, 0] rfl) h

theorem d_CT_diagonal_0 : decode c_CT_diagonal 0 = .ok (.iload_n 1, 1) := by decide +kernel
theorem d_CT_diagonal_1 : decode c_CT_diagonal 1 = .ok (.iconst 0, 1) := by decide +kernel
theorem d_CT_diagonal_2 : decode c_CT_diagonal 2 = .ok (.aload_n 0, 1) := by decide +kernel
theorem d_CT_diagonal_3 : decode c_CT_diagonal 3 = .ok (.getfield 27, 3) := by decide +kernel
theorem d_CT_diagonal_6 : decode c_CT_diagonal 6 = .ok (.invokevirtual 104, 3) := by decide +kernel
theorem d_CT_diagonal_9 : decode c_CT_diagonal 9 = .ok (.iconst 1, 1) := by decide +kernel
theorem d_CT_diagonal_10 : decode c_CT_diagonal 10 = .ok (.isub, 1) := by decide +kernel
theorem d_CT_diagonal_11 : decode c_CT_diagonal 11 = .ok (.invokestatic 33, 3) := by decide +kernel
theorem d_CT_diagonal_14 : decode c_CT_diagonal 14 = .ok (.invokestatic 37, 3) := by decide +kernel
theorem d_CT_diagonal_17 : decode c_CT_diagonal 17 = .ok (.aload_n 0, 1) := by decide +kernel
theorem d_CT_diagonal_18 : decode c_CT_diagonal 18 = .ok (.getfield 27, 3) := by decide +kernel
theorem d_CT_diagonal_21 : decode c_CT_diagonal 21 = .ok (.iload_n 1, 1) := by decide +kernel
theorem d_CT_diagonal_22 : decode c_CT_diagonal 22 = .ok (.invokevirtual 176, 3) := by decide +kernel
theorem d_CT_diagonal_25 : decode c_CT_diagonal 25 = .ok (.ireturn, 1) := by decide +kernel
set_option maxHeartbeats 4000000 in
set_option maxRecDepth 100000 in
theorem s_CT_diagonal (l : Launch) (g : Gx) (ws0 : va_W) (sz : Nat) {s : CS} {a1 : Int32} {res : ((Nat × CS) ⊕ (Int32 × CS))} (hR : cs_Rel g ws0 ws0 s) (hl0 : l.stackTraces = false) (h : fn_CT_diagonal s a1 = some res) : ct_XI l y_CT_diagonal c_CT_diagonal 2 (some .int) rm_CT_diagonal g ws0 sz [.ref (g.2.1 0), .int a1] res 1 6 := by
  refine ct_startXi hl0 (by decide +kernel) rfl (Nat.le_of_ble_eq_true rfl) (fun p e sv m args below meth c ls Q A H locs C0 hret hout hthr hl hw => ?_)
  have hx := C0.1
  have hb := C0.2.1
  have hown := C0.2.2.2.1
  have hts := C0.2.2.2.2.1
  have hl : lv_has ls 2 [(0, .ref (g.2.1 0)), (1, .int a1)] := hl
  unfold fn_CT_diagonal at h
  obtain ⟨ws, hwe⟩ : ∃ z : va_W, z = ws0 := ⟨_, rfl⟩
  rw [← hwe] at hw
  have hR : cs_Rel g ws0 ws s := by rw [hwe]; exact hR
  clear hwe
  refine lv_iload_n hx hb d_CT_diagonal_0 rfl (lv_at hl 1 rfl) ?_
  refine lv_iconst (v := 0) hx hb d_CT_diagonal_1 (by decide) ?_
  refine lv_aload_n hx hb d_CT_diagonal_2 rfl (lv_at hl 0 rfl) ?_
  refine gf_CT_27 C0 hw hR d_CT_diagonal_3 ?_
  obtain ⟨x1, ho, h⟩ := ct_ob_some h
  refine ct_callVi C0 hw hl.1 (q0 := 2) (hR.1 2 (by decide)) rfl (ct_giV wd_423 wd_424 wd_425 wd_4 wd_426) (fun sz => s_Tr_shown l g ws sz hR.rf ho) (nA := 0) (rm := rm_Tr_shown) (by decide +kernel) rfl ⟨rfl, rfl⟩ (by decide) (by decide) (As := []) (rest := [.int 0, .int a1]) rfl (Nat.le_of_ble_eq_true rfl) d_CT_diagonal_6 (fun ws1 H locs hw hp => ?_)
  rw [hp] at hw
  clear hp
  refine lv_iconst (v := 1) hx hb d_CT_diagonal_9 (by decide) ?_
  refine lv_isub hx hb d_CT_diagonal_10 ?_
  obtain ⟨x2, ho, h⟩ := ct_ob_some h
  refine ct_callSi C0 hw hl.1 (ct_giS wd_206 wd_207 wd_1 wd_208) (fun sz => s_CT_within l g ws sz ho) (nA := 3) (rm := rm_CT_within) (by decide +kernel) rfl ⟨rfl, rfl⟩ (by decide) (by decide) (As := [.int a1, .int 0, .int (x1 - 1)]) (rest := []) rfl (Nat.le_of_ble_eq_true rfl) d_CT_diagonal_11 (fun ws1 H locs hw hp => ?_)
  rw [hp] at hw
  clear hp
  obtain ⟨o3, ho, h⟩ := ct_xb_some h
  refine ct_callSXv C0 hw hl.1 (ct_giS wd_209 wd_210 wd_1 wd_211) (fun sz => s_CT_check l g ws sz hR.rf hl0 ho) (nA := 1) (rm := rm_CT_check) (by decide +kernel) rfl ⟨rfl, rfl⟩ (by decide) (by decide) (As := [.int x2]) (rest := []) rfl (Nat.le_of_ble_eq_true rfl) d_CT_diagonal_14 (fun E ce q9 ws1 H locs k9 s9 hw ho9 hE hp h1 h2 h3 => ?_) (fun ws1 H locs s9 hw ho9 hp => ?_)
  · subst ho9; obtain rfl := Option.some.inj h; exact hout hw rfl hE (hR.trans hp) h1 h2 h3 (by decide) (by decide)
  subst ho9
  have h := ct_xc_inr h
  have hR := hR.trans hp
  clear hp
  generalize ws1 = ws at hw hR
  generalize s9 = s4 at hR h
  refine lv_aload_n hx hb d_CT_diagonal_17 rfl (lv_at hl 0 rfl) ?_
  refine gf_CT_27 C0 hw hR d_CT_diagonal_18 ?_
  refine lv_iload_n hx hb d_CT_diagonal_21 rfl (lv_at hl 1 rfl) ?_
  obtain ⟨x5, ho, h⟩ := ct_ob_some h
  refine ct_callVi C0 hw hl.1 (q0 := 2) (hR.1 2 (by decide)) rfl (ct_giV wd_684 wd_685 wd_686 wd_4 wd_687) (fun sz => s_Tr_growth l g ws sz hR.rf ho) (nA := 1) (rm := rm_Tr_growth) (by decide +kernel) rfl ⟨rfl, rfl⟩ (by decide) (by decide) (As := [.int a1]) (rest := []) rfl (Nat.le_of_ble_eq_true rfl) d_CT_diagonal_22 (fun ws1 H locs hw hp => ?_)
  rw [hp] at hw
  clear hp
  obtain rfl := Option.some.inj h
  exact hret hw ⟨_, rfl, hR⟩ (by decide) (by decide) d_CT_diagonal_25

theorem d_Le_countLiving_0 : decode c_Le_countLiving 0 = .ok (.iconst 0, 1) := by decide +kernel
theorem d_Le_countLiving_1 : decode c_Le_countLiving 1 = .ok (.istore_n 1, 1) := by decide +kernel
theorem d_Le_countLiving_2 : decode c_Le_countLiving 2 = .ok (.iconst 0, 1) := by decide +kernel
theorem d_Le_countLiving_3 : decode c_Le_countLiving 3 = .ok (.istore_n 2, 1) := by decide +kernel
theorem d_Le_countLiving_4 : decode c_Le_countLiving 4 = .ok (.iload_n 2, 1) := by decide +kernel
theorem d_Le_countLiving_5 : decode c_Le_countLiving 5 = .ok (.aload_n 0, 1) := by decide +kernel
theorem d_Le_countLiving_6 : decode c_Le_countLiving 6 = .ok (.getfield 31, 3) := by decide +kernel
theorem d_Le_countLiving_9 : decode c_Le_countLiving 9 = .ok (.if_icmp .ge 21, 3) := by decide +kernel
theorem d_Le_countLiving_12 : decode c_Le_countLiving 12 = .ok (.aload_n 0, 1) := by decide +kernel
theorem d_Le_countLiving_13 : decode c_Le_countLiving 13 = .ok (.getfield 28, 3) := by decide +kernel
theorem d_Le_countLiving_16 : decode c_Le_countLiving 16 = .ok (.iload_n 2, 1) := by decide +kernel
theorem d_Le_countLiving_17 : decode c_Le_countLiving 17 = .ok (.baload, 1) := by decide +kernel
theorem d_Le_countLiving_18 : decode c_Le_countLiving 18 = .ok (.ifCond .eq 6, 3) := by decide +kernel
theorem d_Le_countLiving_21 : decode c_Le_countLiving 21 = .ok (.iinc 1 1, 3) := by decide +kernel
theorem d_Le_countLiving_24 : decode c_Le_countLiving 24 = .ok (.iinc 2 1, 3) := by decide +kernel
theorem d_Le_countLiving_27 : decode c_Le_countLiving 27 = .ok (.goto (-23), 3) := by decide +kernel
theorem d_Le_countLiving_30 : decode c_Le_countLiving 30 = .ok (.iload_n 1, 1) := by decide +kernel
theorem d_Le_countLiving_31 : decode c_Le_countLiving 31 = .ok (.ireturn, 1) := by decide +kernel
set_option maxHeartbeats 4000000 in
set_option maxRecDepth 100000 in
theorem s_Le_countLiving (l : Launch) (g : Gx) (ws0 : va_W) (sz : Nat) {s : CS} {res : Int32} (hR : cs_Rel g ws0 ws0 s) (h : fn_Le_countLiving s = some res) : ct_MI l y_Le_countLiving c_Le_countLiving 3 (some .int) rm_Le_countLiving g ws0 sz [.ref (g.2.1 1)] res (fun u => u = ws0) := by
  refine ct_starti (by decide +kernel) (Nat.le_of_ble_eq_true rfl) (fun p e sv m args below meth c ls Q A H locs C0 hret hl hw => ?_)
  have hx := C0.1
  have hb := C0.2.1
  have hown := C0.2.2.2.1
  have hts := C0.2.2.2.2.1
  have hl : lv_has ls 3 [(0, .ref (g.2.1 1))] := hl
  have L4 : ∀ (n4 : Nat) (H : Heap) (locs : List Loc) (ls : Array Slot) (s : CS) (v1 : Int32) (v2 : Int32), ct_Wd g A sv ws0 H locs → cs_Rel g ws0 ws0 s → lv_has ls 3 [(0, .ref (g.2.1 1)), (1, .int v1), (2, .int v2)] → bk_Le_countLiving_4 n4 s v1 v2 = some res → W p l e rm_Le_countLiving sv m args below meth c H locs 0 0 Q (F0 m 4 ls []) := by
    intro n4
    induction n4 with
    | zero =>
      intro H locs ls s v1 v2 hw hR hl h
      exact absurd h (by simp [bk_Le_countLiving_4])
    | succ n4 ih4 =>
      have J24 : ∀ (H : Heap) (locs : List Loc) (ls : Array Slot) (s : CS) (v1 : Int32) (v2 : Int32), ct_Wd g A sv ws0 H locs → cs_Rel g ws0 ws0 s → lv_has ls 3 [(0, .ref (g.2.1 1)), (1, .int v1), (2, .int v2)] → bk_Le_countLiving_24 (bk_Le_countLiving_4 n4) s v1 v2 = some res → W p l e rm_Le_countLiving sv m args below meth c H locs 0 0 Q (F0 m 24 ls []) := by
        intro H locs ls s v1 v2 hw hR hl h
        unfold bk_Le_countLiving_24 at h
        refine lv_iinc (v := v2 + 1) (k := 2) (lv' := [(2, .int (v2 + 1)), (0, .ref (g.2.1 1)), (1, .int v1)]) hx hb d_Le_countLiving_24 hl rfl rfl (by decide) rfl (fun ls hl => ?_)
        refine lv_goto hx hb (tgt := 4) d_Le_countLiving_27 (by decide) ?_
        exact ih4 H locs ls s v1 (v2 + 1) hw hR (lv_sub hl [1, 2, 0] rfl) h
      intro H locs ls s v1 v2 hw hR hl h
      have h : bk_Le_countLiving_4_o (bk_Le_countLiving_4 n4) s v1 v2 = some res := h
      unfold bk_Le_countLiving_4_o at h
      refine lv_iload_n hx hb d_Le_countLiving_4 rfl (lv_at hl 2 rfl) ?_
      refine lv_aload_n hx hb d_Le_countLiving_5 rfl (lv_at hl 0 rfl) ?_
      refine gf_Le_31 C0 hw hR d_Le_countLiving_6 ?_
      refine lv_icmp_ge hx hb (tgt := 30) d_Le_countLiving_9 (by decide) (fun hc9 => ?_) (fun hc9 => ?_)
      · rw [if_pos hc9] at h
        refine lv_iload_n hx hb d_Le_countLiving_30 rfl (lv_at hl 1 rfl) ?_
        obtain rfl := Option.some.inj h
        exact hret hw rfl d_Le_countLiving_31
      · rw [if_neg hc9] at h
        refine lv_aload_n hx hb d_Le_countLiving_12 rfl (lv_at hl 0 rfl) ?_
        refine gf_Le_28 C0 hw hR d_Le_countLiving_13 ?_
        refine lv_iload_n hx hb d_Le_countLiving_16 rfl (lv_at hl 2 rfl) ?_
        obtain ⟨hg17, h⟩ := ct_gd_some h
        refine ct_ldZ (k := 5) C0 hw hR (by decide) (by decide) (ct_inR_vp hg17) d_Le_countLiving_17 ?_
        refine lv_if_eq hx hb (tgt := 24) d_Le_countLiving_18 (by decide) (fun hc9 => ?_) (fun hc9 => ?_)
        · rw [if_pos hc9] at h
          exact J24 H locs ls s v1 v2 hw hR (lv_sub hl [0, 1, 2] rfl) h
        · rw [if_neg hc9] at h
          refine lv_iinc (v := v1 + 1) (k := 1) (lv' := [(1, .int (v1 + 1)), (0, .ref (g.2.1 1)), (2, .int v2)]) hx hb d_Le_countLiving_21 hl rfl rfl (by decide) rfl (fun ls hl => ?_)
          exact J24 H locs ls s (v1 + 1) v2 hw hR (lv_sub hl [1, 0, 2] rfl) h
  unfold fn_Le_countLiving at h
  refine lv_iconst (v := 0) hx hb d_Le_countLiving_0 (by decide) ?_
  refine lv_istore_n (lv' := [(1, .int 0), (0, .ref (g.2.1 1))]) hx hb d_Le_countLiving_1 rfl hl (by decide) rfl (fun ls hl => ?_)
  refine lv_iconst (v := 0) hx hb d_Le_countLiving_2 (by decide) ?_
  refine lv_istore_n (lv' := [(2, .int 0), (1, .int 0), (0, .ref (g.2.1 1))]) hx hb d_Le_countLiving_3 rfl hl (by decide) rfl (fun ls hl => ?_)
  exact L4 200 H locs ls s 0 0 hw hR (lv_sub hl [2, 1, 0] rfl) h

theorem d_Le_sumPayments_0 : decode c_Le_sumPayments 0 = .ok (.iconst 0, 1) := by decide +kernel
theorem d_Le_sumPayments_1 : decode c_Le_sumPayments 1 = .ok (.istore_n 2, 1) := by decide +kernel
theorem d_Le_sumPayments_2 : decode c_Le_sumPayments 2 = .ok (.iconst 0, 1) := by decide +kernel
theorem d_Le_sumPayments_3 : decode c_Le_sumPayments 3 = .ok (.istore_n 3, 1) := by decide +kernel
theorem d_Le_sumPayments_4 : decode c_Le_sumPayments 4 = .ok (.iload_n 3, 1) := by decide +kernel
theorem d_Le_sumPayments_5 : decode c_Le_sumPayments 5 = .ok (.aload_n 0, 1) := by decide +kernel
theorem d_Le_sumPayments_6 : decode c_Le_sumPayments 6 = .ok (.getfield 31, 3) := by decide +kernel
theorem d_Le_sumPayments_9 : decode c_Le_sumPayments 9 = .ok (.if_icmp .ge 36, 3) := by decide +kernel
theorem d_Le_sumPayments_12 : decode c_Le_sumPayments 12 = .ok (.aload_n 0, 1) := by decide +kernel
theorem d_Le_sumPayments_13 : decode c_Le_sumPayments 13 = .ok (.iload_n 3, 1) := by decide +kernel
theorem d_Le_sumPayments_14 : decode c_Le_sumPayments 14 = .ok (.iload_n 1, 1) := by decide +kernel
theorem d_Le_sumPayments_15 : decode c_Le_sumPayments 15 = .ok (.invokevirtual 35, 3) := by decide +kernel
theorem d_Le_sumPayments_18 : decode c_Le_sumPayments 18 = .ok (.ifCond .eq 21, 3) := by decide +kernel
theorem d_Le_sumPayments_21 : decode c_Le_sumPayments 21 = .ok (.aload_n 0, 1) := by decide +kernel
theorem d_Le_sumPayments_22 : decode c_Le_sumPayments 22 = .ok (.getfield 24, 3) := by decide +kernel
theorem d_Le_sumPayments_25 : decode c_Le_sumPayments 25 = .ok (.iload_n 3, 1) := by decide +kernel
theorem d_Le_sumPayments_26 : decode c_Le_sumPayments 26 = .ok (.baload, 1) := by decide +kernel
theorem d_Le_sumPayments_27 : decode c_Le_sumPayments 27 = .ok (.ifCond .ne 12, 3) := by decide +kernel
theorem d_Le_sumPayments_30 : decode c_Le_sumPayments 30 = .ok (.iload_n 2, 1) := by decide +kernel
theorem d_Le_sumPayments_31 : decode c_Le_sumPayments 31 = .ok (.aload_n 0, 1) := by decide +kernel
theorem d_Le_sumPayments_32 : decode c_Le_sumPayments 32 = .ok (.getfield 21, 3) := by decide +kernel
theorem d_Le_sumPayments_35 : decode c_Le_sumPayments 35 = .ok (.iload_n 3, 1) := by decide +kernel
theorem d_Le_sumPayments_36 : decode c_Le_sumPayments 36 = .ok (.iaload, 1) := by decide +kernel
theorem d_Le_sumPayments_37 : decode c_Le_sumPayments 37 = .ok (.iadd, 1) := by decide +kernel
theorem d_Le_sumPayments_38 : decode c_Le_sumPayments 38 = .ok (.istore_n 2, 1) := by decide +kernel
theorem d_Le_sumPayments_39 : decode c_Le_sumPayments 39 = .ok (.iinc 3 1, 3) := by decide +kernel
theorem d_Le_sumPayments_42 : decode c_Le_sumPayments 42 = .ok (.goto (-38), 3) := by decide +kernel
theorem d_Le_sumPayments_45 : decode c_Le_sumPayments 45 = .ok (.iload_n 2, 1) := by decide +kernel
theorem d_Le_sumPayments_46 : decode c_Le_sumPayments 46 = .ok (.ireturn, 1) := by decide +kernel
set_option maxHeartbeats 4000000 in
set_option maxRecDepth 100000 in
theorem s_Le_sumPayments (l : Launch) (g : Gx) (ws0 : va_W) (sz : Nat) {s : CS} {a1 : Int32} {res : Int32} (hR : cs_Rel g ws0 ws0 s) (h : fn_Le_sumPayments s a1 = some res) : ct_MI l y_Le_sumPayments c_Le_sumPayments 4 (some .int) rm_Le_sumPayments g ws0 sz [.ref (g.2.1 1), .int a1] res (fun u => u = ws0) := by
  refine ct_starti (by decide +kernel) (Nat.le_of_ble_eq_true rfl) (fun p e sv m args below meth c ls Q A H locs C0 hret hl hw => ?_)
  have hx := C0.1
  have hb := C0.2.1
  have hown := C0.2.2.2.1
  have hts := C0.2.2.2.2.1
  have hl : lv_has ls 4 [(0, .ref (g.2.1 1)), (1, .int a1)] := hl
  have L4 : ∀ (n4 : Nat) (H : Heap) (locs : List Loc) (ls : Array Slot) (s : CS) (v2 : Int32) (v3 : Int32), ct_Wd g A sv ws0 H locs → cs_Rel g ws0 ws0 s → lv_has ls 4 [(0, .ref (g.2.1 1)), (1, .int a1), (2, .int v2), (3, .int v3)] → bk_Le_sumPayments_4 a1 n4 s v2 v3 = some res → W p l e rm_Le_sumPayments sv m args below meth c H locs 0 0 Q (F0 m 4 ls []) := by
    intro n4
    induction n4 with
    | zero =>
      intro H locs ls s v2 v3 hw hR hl h
      exact absurd h (by simp [bk_Le_sumPayments_4])
    | succ n4 ih4 =>
      have J39 : ∀ (H : Heap) (locs : List Loc) (ls : Array Slot) (s : CS) (v2 : Int32) (v3 : Int32), ct_Wd g A sv ws0 H locs → cs_Rel g ws0 ws0 s → lv_has ls 4 [(0, .ref (g.2.1 1)), (1, .int a1), (2, .int v2), (3, .int v3)] → bk_Le_sumPayments_39 a1 (bk_Le_sumPayments_4 a1 n4) s v2 v3 = some res → W p l e rm_Le_sumPayments sv m args below meth c H locs 0 0 Q (F0 m 39 ls []) := by
        intro H locs ls s v2 v3 hw hR hl h
        unfold bk_Le_sumPayments_39 at h
        refine lv_iinc (v := v3 + 1) (k := 3) (lv' := [(3, .int (v3 + 1)), (0, .ref (g.2.1 1)), (1, .int a1), (2, .int v2)]) hx hb d_Le_sumPayments_39 hl rfl rfl (by decide) rfl (fun ls hl => ?_)
        refine lv_goto hx hb (tgt := 4) d_Le_sumPayments_42 (by decide) ?_
        exact ih4 H locs ls s v2 (v3 + 1) hw hR (lv_sub hl [1, 2, 3, 0] rfl) h
      intro H locs ls s v2 v3 hw hR hl h
      have h : bk_Le_sumPayments_4_o a1 (bk_Le_sumPayments_4 a1 n4) s v2 v3 = some res := h
      unfold bk_Le_sumPayments_4_o at h
      refine lv_iload_n hx hb d_Le_sumPayments_4 rfl (lv_at hl 3 rfl) ?_
      refine lv_aload_n hx hb d_Le_sumPayments_5 rfl (lv_at hl 0 rfl) ?_
      refine gf_Le_31 C0 hw hR d_Le_sumPayments_6 ?_
      refine lv_icmp_ge hx hb (tgt := 45) d_Le_sumPayments_9 (by decide) (fun hc9 => ?_) (fun hc9 => ?_)
      · rw [if_pos hc9] at h
        refine lv_iload_n hx hb d_Le_sumPayments_45 rfl (lv_at hl 2 rfl) ?_
        obtain rfl := Option.some.inj h
        exact hret hw rfl d_Le_sumPayments_46
      · rw [if_neg hc9] at h
        refine lv_aload_n hx hb d_Le_sumPayments_12 rfl (lv_at hl 0 rfl) ?_
        refine lv_iload_n hx hb d_Le_sumPayments_13 rfl (lv_at hl 3 rfl) ?_
        refine lv_iload_n hx hb d_Le_sumPayments_14 rfl (lv_at hl 1 rfl) ?_
        obtain ⟨x1, ho, h⟩ := ct_ob_some h
        refine ct_callVi C0 hw hl.1 (q0 := 1) (hR.1 1 (by decide)) rfl (ct_giV wd_339 wd_320 wd_321 wd_2 wd_322) (fun sz => s_Le_livesIn l g ws0 sz hR.rf ho) (nA := 2) (rm := rm_Le_livesIn) (by decide +kernel) rfl ⟨rfl, rfl⟩ (by decide) (by decide) (As := [.int v3, .int a1]) (rest := []) rfl (Nat.le_of_ble_eq_true rfl) d_Le_sumPayments_15 (fun ws1 H locs hw hp => ?_)
        rw [hp] at hw
        clear hp
        refine lv_if_eq hx hb (tgt := 39) d_Le_sumPayments_18 (by decide) (fun hc9 => ?_) (fun hc9 => ?_)
        · rw [if_pos hc9] at h
          exact J39 H locs ls s v2 v3 hw hR (lv_sub hl [0, 1, 2, 3] rfl) h
        · rw [if_neg hc9] at h
          refine lv_aload_n hx hb d_Le_sumPayments_21 rfl (lv_at hl 0 rfl) ?_
          refine gf_Le_24 C0 hw hR d_Le_sumPayments_22 ?_
          refine lv_iload_n hx hb d_Le_sumPayments_25 rfl (lv_at hl 3 rfl) ?_
          obtain ⟨hg26, h⟩ := ct_gd_some h
          refine ct_ldZ (k := 4) C0 hw hR (by decide) (by decide) (ct_inR_vp hg26) d_Le_sumPayments_26 ?_
          refine lv_if_ne hx hb (tgt := 39) d_Le_sumPayments_27 (by decide) (fun hc9 => ?_) (fun hc9 => ?_)
          · rw [if_pos hc9] at h
            exact J39 H locs ls s v2 v3 hw hR (lv_sub hl [0, 1, 2, 3] rfl) h
          · rw [if_neg (fun q => q hc9)] at h
            refine lv_iload_n hx hb d_Le_sumPayments_30 rfl (lv_at hl 2 rfl) ?_
            refine lv_aload_n hx hb d_Le_sumPayments_31 rfl (lv_at hl 0 rfl) ?_
            refine gf_Le_21 C0 hw hR d_Le_sumPayments_32 ?_
            refine lv_iload_n hx hb d_Le_sumPayments_35 rfl (lv_at hl 3 rfl) ?_
            obtain ⟨hg36, h⟩ := ct_gd_some h
            refine ct_ldA (k := 3) C0 hw hR (by decide) (ct_inR_vp hg36) d_Le_sumPayments_36 ?_
            refine lv_iadd hx hb d_Le_sumPayments_37 ?_
            refine lv_topi (fun x2 e9 => ?_)
            have h := ct_nm_at h e9
            clear e9
            refine lv_istore_n (lv' := [(2, .int x2), (0, .ref (g.2.1 1)), (1, .int a1), (3, .int v3)]) hx hb d_Le_sumPayments_38 rfl hl (by decide) rfl (fun ls hl => ?_)
            exact J39 H locs ls s x2 v3 hw hR (lv_sub hl [1, 2, 0, 3] rfl) h
  unfold fn_Le_sumPayments at h
  refine lv_iconst (v := 0) hx hb d_Le_sumPayments_0 (by decide) ?_
  refine lv_istore_n (lv' := [(2, .int 0), (0, .ref (g.2.1 1)), (1, .int a1)]) hx hb d_Le_sumPayments_1 rfl hl (by decide) rfl (fun ls hl => ?_)
  refine lv_iconst (v := 0) hx hb d_Le_sumPayments_2 (by decide) ?_
  refine lv_istore_n (lv' := [(3, .int 0), (2, .int 0), (0, .ref (g.2.1 1)), (1, .int a1)]) hx hb d_Le_sumPayments_3 rfl hl (by decide) rfl (fun ls hl => ?_)
  exact L4 200 H locs ls s 0 0 hw hR (lv_sub hl [2, 3, 1, 0] rfl) h

theorem d_CT_count_0 : decode c_CT_count 0 = .ok (.iload_n 1, 1) := by decide +kernel
theorem d_CT_count_1 : decode c_CT_count 1 = .ok (.tableswitch 82 0 4 #[35, 43, 51, 59, 67], 35) := by decide +kernel
theorem d_CT_count_36 : decode c_CT_count 36 = .ok (.aload_n 0, 1) := by decide +kernel
theorem d_CT_count_37 : decode c_CT_count 37 = .ok (.getfield 10, 3) := by decide +kernel
theorem d_CT_count_40 : decode c_CT_count 40 = .ok (.getfield 179, 3) := by decide +kernel
theorem d_CT_count_43 : decode c_CT_count 43 = .ok (.ireturn, 1) := by decide +kernel
theorem d_CT_count_44 : decode c_CT_count 44 = .ok (.aload_n 0, 1) := by decide +kernel
theorem d_CT_count_45 : decode c_CT_count 45 = .ok (.getfield 10, 3) := by decide +kernel
theorem d_CT_count_48 : decode c_CT_count 48 = .ok (.invokevirtual 180, 3) := by decide +kernel
theorem d_CT_count_51 : decode c_CT_count 51 = .ok (.ireturn, 1) := by decide +kernel
theorem d_CT_count_52 : decode c_CT_count 52 = .ok (.aload_n 0, 1) := by decide +kernel
theorem d_CT_count_53 : decode c_CT_count 53 = .ok (.getfield 27, 3) := by decide +kernel
theorem d_CT_count_56 : decode c_CT_count 56 = .ok (.invokevirtual 104, 3) := by decide +kernel
theorem d_CT_count_59 : decode c_CT_count 59 = .ok (.ireturn, 1) := by decide +kernel
theorem d_CT_count_60 : decode c_CT_count 60 = .ok (.aload_n 0, 1) := by decide +kernel
theorem d_CT_count_61 : decode c_CT_count 61 = .ok (.getfield 27, 3) := by decide +kernel
theorem d_CT_count_64 : decode c_CT_count 64 = .ok (.getfield 125, 3) := by decide +kernel
theorem d_CT_count_67 : decode c_CT_count 67 = .ok (.ireturn, 1) := by decide +kernel
theorem d_CT_count_68 : decode c_CT_count 68 = .ok (.aload_n 0, 1) := by decide +kernel
theorem d_CT_count_69 : decode c_CT_count 69 = .ok (.getfield 10, 3) := by decide +kernel
theorem d_CT_count_72 : decode c_CT_count 72 = .ok (.aload_n 0, 1) := by decide +kernel
theorem d_CT_count_73 : decode c_CT_count 73 = .ok (.getfield 27, 3) := by decide +kernel
theorem d_CT_count_76 : decode c_CT_count 76 = .ok (.getfield 183, 3) := by decide +kernel
theorem d_CT_count_79 : decode c_CT_count 79 = .ok (.invokevirtual 186, 3) := by decide +kernel
theorem d_CT_count_82 : decode c_CT_count 82 = .ok (.ireturn, 1) := by decide +kernel
theorem d_CT_count_83 : decode c_CT_count 83 = .ok (.new 189, 3) := by decide +kernel
theorem d_CT_count_86 : decode c_CT_count 86 = .ok (.dup, 1) := by decide +kernel
theorem d_CT_count_87 : decode c_CT_count 87 = .ok (.ldc 191, 2) := by decide +kernel
theorem d_CT_count_89 : decode c_CT_count 89 = .ok (.invokespecial 193, 3) := by decide +kernel
theorem d_CT_count_92 : decode c_CT_count 92 = .ok (.athrow, 1) := by decide +kernel
set_option maxHeartbeats 4000000 in
set_option maxRecDepth 100000 in
theorem s_CT_count (l : Launch) (g : Gx) (ws0 : va_W) (sz : Nat) {s : CS} {a1 : Int32} {res : ((Nat × CS) ⊕ (Int32 × CS))} (hR : cs_Rel g ws0 ws0 s) (hl0 : l.stackTraces = false) (h : fn_CT_count s a1 = some res) : ct_XI l y_CT_count c_CT_count 2 (some .int) rm_CT_count g ws0 sz [.ref (g.2.1 0), .int a1] res 1 6 := by
  refine ct_startXi hl0 (by decide +kernel) rfl (Nat.le_of_ble_eq_true rfl) (fun p e sv m args below meth c ls Q A H locs C0 hret hout hthr hl hw => ?_)
  have hx := C0.1
  have hb := C0.2.1
  have hown := C0.2.2.2.1
  have hts := C0.2.2.2.2.1
  have hl : lv_has ls 2 [(0, .ref (g.2.1 0)), (1, .int a1)] := hl
  unfold fn_CT_count at h
  obtain ⟨ws, hwe⟩ : ∃ z : va_W, z = ws0 := ⟨_, rfl⟩
  rw [← hwe] at hw
  have hR : cs_Rel g ws0 ws s := by rw [hwe]; exact hR
  clear hwe
  refine lv_iload_n hx hb d_CT_count_0 rfl (lv_at hl 1 rfl) ?_
  by_cases hk0 : a1 = 0
  · rw [if_pos hk0] at h
    refine lv_tableIn hx hb (tgt := 36) d_CT_count_1 (by rw [hk0]; decide) (by rw [hk0]; decide) (by rw [hk0]; rfl) (by decide) ?_
    refine lv_aload_n hx hb d_CT_count_36 rfl (lv_at hl 0 rfl) ?_
    refine gf_CT_10 C0 hw hR d_CT_count_37 ?_
    refine gf_CT_179 C0 hw hR d_CT_count_40 ?_
    obtain rfl := Option.some.inj h
    exact hret hw ⟨_, rfl, hR⟩ (by decide) (by decide) d_CT_count_43
  rw [if_neg hk0] at h
  by_cases hk1 : a1 = 1
  · rw [if_pos hk1] at h
    refine lv_tableIn hx hb (tgt := 44) d_CT_count_1 (by rw [hk1]; decide) (by rw [hk1]; decide) (by rw [hk1]; rfl) (by decide) ?_
    refine lv_aload_n hx hb d_CT_count_44 rfl (lv_at hl 0 rfl) ?_
    refine gf_CT_10 C0 hw hR d_CT_count_45 ?_
    obtain ⟨x1, ho, h⟩ := ct_ob_some h
    refine ct_callVi C0 hw hl.1 (q0 := 1) (hR.1 1 (by decide)) rfl (ct_giV wd_695 wd_696 wd_697 wd_2 wd_698) (fun sz => s_Le_countLiving l g ws sz hR.rf ho) (nA := 0) (rm := rm_Le_countLiving) (by decide +kernel) rfl ⟨rfl, rfl⟩ (by decide) (by decide) (As := []) (rest := []) rfl (Nat.le_of_ble_eq_true rfl) d_CT_count_48 (fun ws1 H locs hw hp => ?_)
    rw [hp] at hw
    clear hp
    obtain rfl := Option.some.inj h
    exact hret hw ⟨_, rfl, hR⟩ (by decide) (by decide) d_CT_count_51
  rw [if_neg hk1] at h
  by_cases hk2 : a1 = 2
  · rw [if_pos hk2] at h
    refine lv_tableIn hx hb (tgt := 52) d_CT_count_1 (by rw [hk2]; decide) (by rw [hk2]; decide) (by rw [hk2]; rfl) (by decide) ?_
    refine lv_aload_n hx hb d_CT_count_52 rfl (lv_at hl 0 rfl) ?_
    refine gf_CT_27 C0 hw hR d_CT_count_53 ?_
    obtain ⟨x2, ho, h⟩ := ct_ob_some h
    refine ct_callVi C0 hw hl.1 (q0 := 2) (hR.1 2 (by decide)) rfl (ct_giV wd_423 wd_424 wd_425 wd_4 wd_426) (fun sz => s_Tr_shown l g ws sz hR.rf ho) (nA := 0) (rm := rm_Tr_shown) (by decide +kernel) rfl ⟨rfl, rfl⟩ (by decide) (by decide) (As := []) (rest := []) rfl (Nat.le_of_ble_eq_true rfl) d_CT_count_56 (fun ws1 H locs hw hp => ?_)
    rw [hp] at hw
    clear hp
    obtain rfl := Option.some.inj h
    exact hret hw ⟨_, rfl, hR⟩ (by decide) (by decide) d_CT_count_59
  rw [if_neg hk2] at h
  by_cases hk3 : a1 = 3
  · rw [if_pos hk3] at h
    refine lv_tableIn hx hb (tgt := 60) d_CT_count_1 (by rw [hk3]; decide) (by rw [hk3]; decide) (by rw [hk3]; rfl) (by decide) ?_
    refine lv_aload_n hx hb d_CT_count_60 rfl (lv_at hl 0 rfl) ?_
    refine gf_CT_27 C0 hw hR d_CT_count_61 ?_
    refine gf_CT_125 C0 hw hR d_CT_count_64 ?_
    obtain rfl := Option.some.inj h
    exact hret hw ⟨_, rfl, hR⟩ (by decide) (by decide) d_CT_count_67
  rw [if_neg hk3] at h
  by_cases hk4 : a1 = 4
  · rw [if_pos hk4] at h
    refine lv_tableIn hx hb (tgt := 68) d_CT_count_1 (by rw [hk4]; decide) (by rw [hk4]; decide) (by rw [hk4]; rfl) (by decide) ?_
    refine lv_aload_n hx hb d_CT_count_68 rfl (lv_at hl 0 rfl) ?_
    refine gf_CT_10 C0 hw hR d_CT_count_69 ?_
    refine lv_aload_n hx hb d_CT_count_72 rfl (lv_at hl 0 rfl) ?_
    refine gf_CT_27 C0 hw hR d_CT_count_73 ?_
    refine gf_CT_183 C0 hw hR d_CT_count_76 ?_
    obtain ⟨x3, ho, h⟩ := ct_ob_some h
    refine ct_callVi C0 hw hl.1 (q0 := 1) (hR.1 1 (by decide)) rfl (ct_giV wd_699 wd_700 wd_701 wd_2 wd_702) (fun sz => s_Le_sumPayments l g ws sz hR.rf ho) (nA := 1) (rm := rm_Le_sumPayments) (by decide +kernel) rfl ⟨rfl, rfl⟩ (by decide) (by decide) (As := [.int (cs_I s 1)]) (rest := []) rfl (Nat.le_of_ble_eq_true rfl) d_CT_count_79 (fun ws1 H locs hw hp => ?_)
    rw [hp] at hw
    clear hp
    obtain rfl := Option.some.inj h
    exact hret hw ⟨_, rfl, hR⟩ (by decide) (by decide) d_CT_count_82
  rw [if_neg hk4] at h
  refine lv_tableOut hx hb (tgt := 83) d_CT_count_1 (by have e0 := lv_neT (a := 0) hk0 rfl; have e1 := lv_neT (a := 1) hk1 rfl; have e2 := lv_neT (a := 2) hk2 rfl; have e3 := lv_neT (a := 3) hk3 rfl; have e4 := lv_neT (a := 4) hk4 rfl; omega) (by decide) ?_
  obtain rfl := Option.some.inj h
  exact hthr (X := "java/lang/IllegalArgumentException") (k := 1) hl.1 hw hR rfl rfl (by decide +kernel) wd_212 wd_11 (by decide +kernel : (191, "there is no such count") ∈ ct_str) ok_thr_193.1 ok_thr_193.2 (ok_thr_193_g _) d_CT_count_83 d_CT_count_86 d_CT_count_87 d_CT_count_89 d_CT_count_92 (by decide) (Nat.le_of_ble_eq_true rfl) (by decide) (by decide) (by decide) (by decide)

theorem d_Mo_thrown_0 : decode c_Mo_thrown 0 = .ok (.aload_n 0, 1) := by decide +kernel
theorem d_Mo_thrown_1 : decode c_Mo_thrown 1 = .ok (.getfield 55, 3) := by decide +kernel
theorem d_Mo_thrown_4 : decode c_Mo_thrown 4 = .ok (.ireturn, 1) := by decide +kernel
set_option maxHeartbeats 4000000 in
set_option maxRecDepth 100000 in
theorem s_Mo_thrown (l : Launch) (g : Gx) (ws0 : va_W) (sz : Nat) {s : MS} {res : Int32} (hR : ms_Rel g ws0 ws0 s) (h : fn_Mo_thrown s = some res) : ct_MI l y_Mo_thrown c_Mo_thrown 1 (some .int) rm_Mo_thrown g ws0 sz [.ref (g.2.1 35)] res (fun u => u = ws0) := by
  refine ct_starti (by decide +kernel) (Nat.le_of_ble_eq_true rfl) (fun p e sv m args below meth c ls Q A H locs C0 hret hl hw => ?_)
  have hx := C0.1
  have hb := C0.2.1
  have hown := C0.2.2.2.1
  have hts := C0.2.2.2.2.1
  have hl : lv_has ls 1 [(0, .ref (g.2.1 35))] := hl
  unfold fn_Mo_thrown at h
  refine lv_aload_n hx hb d_Mo_thrown_0 rfl (lv_at hl 0 rfl) ?_
  refine gf_Mo_55 C0 hw hR d_Mo_thrown_1 ?_
  obtain rfl := Option.some.inj h
  exact hret hw rfl d_Mo_thrown_4

theorem d_Mo_noLine_0 : decode c_Mo_noLine 0 = .ok (.iload_n 1, 1) := by decide +kernel
theorem d_Mo_noLine_1 : decode c_Mo_noLine 1 = .ok (.ifCond .lt 8, 3) := by decide +kernel
theorem d_Mo_noLine_4 : decode c_Mo_noLine 4 = .ok (.iload_n 1, 1) := by decide +kernel
theorem d_Mo_noLine_5 : decode c_Mo_noLine 5 = .ok (.iconst 1, 1) := by decide +kernel
theorem d_Mo_noLine_6 : decode c_Mo_noLine 6 = .ok (.if_icmp .le 7, 3) := by decide +kernel
theorem d_Mo_noLine_9 : decode c_Mo_noLine 9 = .ok (.iconst 1, 1) := by decide +kernel
theorem d_Mo_noLine_10 : decode c_Mo_noLine 10 = .ok (.goto 4, 3) := by decide +kernel
theorem d_Mo_noLine_13 : decode c_Mo_noLine 13 = .ok (.iconst 0, 1) := by decide +kernel
theorem d_Mo_noLine_14 : decode c_Mo_noLine 14 = .ok (.ireturn, 1) := by decide +kernel
set_option maxHeartbeats 4000000 in
set_option maxRecDepth 100000 in
theorem s_Mo_noLine (l : Launch) (g : Gx) (ws0 : va_W) (sz : Nat) {a1 : Int32} {res : Int32} (h : fn_Mo_noLine a1 = some res) : ct_MI l y_Mo_noLine c_Mo_noLine 2 (some .boolean) rm_Mo_noLine g ws0 sz [.ref (g.2.1 35), .int a1] res (fun u => u = ws0) := by
  refine ct_startz (by decide +kernel) (Nat.le_of_ble_eq_true rfl) (fun p e sv m args below meth c ls Q A H locs C0 hret hl hw => ?_)
  have hx := C0.1
  have hb := C0.2.1
  have hown := C0.2.2.2.1
  have hts := C0.2.2.2.2.1
  have hl : lv_has ls 2 [(0, .ref (g.2.1 35)), (1, .int a1)] := hl
  unfold fn_Mo_noLine at h
  refine lv_iload_n hx hb d_Mo_noLine_0 rfl (lv_at hl 1 rfl) ?_
  refine lv_if_lt hx hb (tgt := 9) d_Mo_noLine_1 (by decide) (fun hc9 => ?_) (fun hc9 => ?_)
  · rw [if_pos hc9] at h
    refine lv_iconst (v := 1) hx hb d_Mo_noLine_9 (by decide) ?_
    refine lv_goto hx hb (tgt := 14) d_Mo_noLine_10 (by decide) ?_
    have hz : ct_isB 1 = true := by decide
    obtain rfl := Option.some.inj h
    exact hret hz hw rfl d_Mo_noLine_14
  · rw [if_neg hc9] at h
    refine lv_iload_n hx hb d_Mo_noLine_4 rfl (lv_at hl 1 rfl) ?_
    refine lv_iconst (v := 1) hx hb d_Mo_noLine_5 (by decide) ?_
    refine lv_icmp_le hx hb (tgt := 13) d_Mo_noLine_6 (by decide) (fun hc9 => ?_) (fun hc9 => ?_)
    · rw [if_pos hc9] at h
      refine lv_iconst (v := 0) hx hb d_Mo_noLine_13 (by decide) ?_
      have hz : ct_isB 0 = true := by decide
      obtain rfl := Option.some.inj h
      exact hret hz hw rfl d_Mo_noLine_14
    · rw [if_neg hc9] at h
      refine lv_iconst (v := 1) hx hb d_Mo_noLine_9 (by decide) ?_
      refine lv_goto hx hb (tgt := 14) d_Mo_noLine_10 (by decide) ?_
      have hz : ct_isB 1 = true := by decide
      obtain rfl := Option.some.inj h
      exact hret hz hw rfl d_Mo_noLine_14

theorem d_Mo_noMonths_0 : decode c_Mo_noMonths 0 = .ok (.iload_n 1, 1) := by decide +kernel
theorem d_Mo_noMonths_1 : decode c_Mo_noMonths 1 = .ok (.ifCond .lt 20, 3) := by decide +kernel
theorem d_Mo_noMonths_4 : decode c_Mo_noMonths 4 = .ok (.iload_n 1, 1) := by decide +kernel
theorem d_Mo_noMonths_5 : decode c_Mo_noMonths 5 = .ok (.bipush 71, 2) := by decide +kernel
theorem d_Mo_noMonths_7 : decode c_Mo_noMonths 7 = .ok (.if_icmp .gt 14, 3) := by decide +kernel
theorem d_Mo_noMonths_10 : decode c_Mo_noMonths 10 = .ok (.iload_n 2, 1) := by decide +kernel
theorem d_Mo_noMonths_11 : decode c_Mo_noMonths 11 = .ok (.iload_n 1, 1) := by decide +kernel
theorem d_Mo_noMonths_12 : decode c_Mo_noMonths 12 = .ok (.if_icmp .lt 9, 3) := by decide +kernel
theorem d_Mo_noMonths_15 : decode c_Mo_noMonths 15 = .ok (.iload_n 2, 1) := by decide +kernel
theorem d_Mo_noMonths_16 : decode c_Mo_noMonths 16 = .ok (.bipush 71, 2) := by decide +kernel
theorem d_Mo_noMonths_18 : decode c_Mo_noMonths 18 = .ok (.if_icmp .le 7, 3) := by decide +kernel
theorem d_Mo_noMonths_21 : decode c_Mo_noMonths 21 = .ok (.iconst 1, 1) := by decide +kernel
theorem d_Mo_noMonths_22 : decode c_Mo_noMonths 22 = .ok (.goto 4, 3) := by decide +kernel
theorem d_Mo_noMonths_25 : decode c_Mo_noMonths 25 = .ok (.iconst 0, 1) := by decide +kernel
theorem d_Mo_noMonths_26 : decode c_Mo_noMonths 26 = .ok (.ireturn, 1) := by decide +kernel
set_option maxHeartbeats 4000000 in
set_option maxRecDepth 100000 in
theorem s_Mo_noMonths (l : Launch) (g : Gx) (ws0 : va_W) (sz : Nat) {a1 : Int32} {a2 : Int32} {res : Int32} (h : fn_Mo_noMonths a1 a2 = some res) : ct_MI l y_Mo_noMonths c_Mo_noMonths 3 (some .boolean) rm_Mo_noMonths g ws0 sz [.ref (g.2.1 35), .int a1, .int a2] res (fun u => u = ws0) := by
  refine ct_startz (by decide +kernel) (Nat.le_of_ble_eq_true rfl) (fun p e sv m args below meth c ls Q A H locs C0 hret hl hw => ?_)
  have hx := C0.1
  have hb := C0.2.1
  have hown := C0.2.2.2.1
  have hts := C0.2.2.2.2.1
  have hl : lv_has ls 3 [(0, .ref (g.2.1 35)), (1, .int a1), (2, .int a2)] := hl
  unfold fn_Mo_noMonths at h
  refine lv_iload_n hx hb d_Mo_noMonths_0 rfl (lv_at hl 1 rfl) ?_
  refine lv_if_lt hx hb (tgt := 21) d_Mo_noMonths_1 (by decide) (fun hc9 => ?_) (fun hc9 => ?_)
  · rw [if_pos hc9] at h
    refine lv_iconst (v := 1) hx hb d_Mo_noMonths_21 (by decide) ?_
    refine lv_goto hx hb (tgt := 26) d_Mo_noMonths_22 (by decide) ?_
    have hz : ct_isB 1 = true := by decide
    obtain rfl := Option.some.inj h
    exact hret hz hw rfl d_Mo_noMonths_26
  · rw [if_neg hc9] at h
    refine lv_iload_n hx hb d_Mo_noMonths_4 rfl (lv_at hl 1 rfl) ?_
    refine lv_bipush (v := 71) hx hb d_Mo_noMonths_5 (by decide) ?_
    refine lv_icmp_gt hx hb (tgt := 21) d_Mo_noMonths_7 (by decide) (fun hc9 => ?_) (fun hc9 => ?_)
    · rw [if_pos hc9] at h
      refine lv_iconst (v := 1) hx hb d_Mo_noMonths_21 (by decide) ?_
      refine lv_goto hx hb (tgt := 26) d_Mo_noMonths_22 (by decide) ?_
      have hz : ct_isB 1 = true := by decide
      obtain rfl := Option.some.inj h
      exact hret hz hw rfl d_Mo_noMonths_26
    · rw [if_neg hc9] at h
      refine lv_iload_n hx hb d_Mo_noMonths_10 rfl (lv_at hl 2 rfl) ?_
      refine lv_iload_n hx hb d_Mo_noMonths_11 rfl (lv_at hl 1 rfl) ?_
      refine lv_icmp_lt hx hb (tgt := 21) d_Mo_noMonths_12 (by decide) (fun hc9 => ?_) (fun hc9 => ?_)
      · rw [if_pos hc9] at h
        refine lv_iconst (v := 1) hx hb d_Mo_noMonths_21 (by decide) ?_
        refine lv_goto hx hb (tgt := 26) d_Mo_noMonths_22 (by decide) ?_
        have hz : ct_isB 1 = true := by decide
        obtain rfl := Option.some.inj h
        exact hret hz hw rfl d_Mo_noMonths_26
      · rw [if_neg hc9] at h
        refine lv_iload_n hx hb d_Mo_noMonths_15 rfl (lv_at hl 2 rfl) ?_
        refine lv_bipush (v := 71) hx hb d_Mo_noMonths_16 (by decide) ?_
        refine lv_icmp_le hx hb (tgt := 25) d_Mo_noMonths_18 (by decide) (fun hc9 => ?_) (fun hc9 => ?_)
        · rw [if_pos hc9] at h
          refine lv_iconst (v := 0) hx hb d_Mo_noMonths_25 (by decide) ?_
          have hz : ct_isB 0 = true := by decide
          obtain rfl := Option.some.inj h
          exact hret hz hw rfl d_Mo_noMonths_26
        · rw [if_neg hc9] at h
          refine lv_iconst (v := 1) hx hb d_Mo_noMonths_21 (by decide) ?_
          refine lv_goto hx hb (tgt := 26) d_Mo_noMonths_22 (by decide) ?_
          have hz : ct_isB 1 = true := by decide
          obtain rfl := Option.some.inj h
          exact hret hz hw rfl d_Mo_noMonths_26

theorem d_Mo_enter_0 : decode c_Mo_enter 0 = .ok (.aload_n 0, 1) := by decide +kernel
theorem d_Mo_enter_1 : decode c_Mo_enter 1 = .ok (.iload_n 1, 1) := by decide +kernel
theorem d_Mo_enter_2 : decode c_Mo_enter 2 = .ok (.invokevirtual 58, 3) := by decide +kernel
theorem d_Mo_enter_5 : decode c_Mo_enter 5 = .ok (.ifCond .ne 37, 3) := by decide +kernel
theorem d_Mo_enter_8 : decode c_Mo_enter 8 = .ok (.aload_n 0, 1) := by decide +kernel
theorem d_Mo_enter_9 : decode c_Mo_enter 9 = .ok (.iload_n 2, 1) := by decide +kernel
theorem d_Mo_enter_10 : decode c_Mo_enter 10 = .ok (.iload_n 3, 1) := by decide +kernel
theorem d_Mo_enter_11 : decode c_Mo_enter 11 = .ok (.invokevirtual 62, 3) := by decide +kernel
theorem d_Mo_enter_14 : decode c_Mo_enter 14 = .ok (.ifCond .ne 28, 3) := by decide +kernel
theorem d_Mo_enter_17 : decode c_Mo_enter 17 = .ok (.iload 4, 2) := by decide +kernel
theorem d_Mo_enter_19 : decode c_Mo_enter 19 = .ok (.sipush 9999, 3) := by decide +kernel
theorem d_Mo_enter_22 : decode c_Mo_enter 22 = .ok (.if_icmp .gt 20, 3) := by decide +kernel
theorem d_Mo_enter_25 : decode c_Mo_enter 25 = .ok (.iload 4, 2) := by decide +kernel
theorem d_Mo_enter_27 : decode c_Mo_enter 27 = .ok (.iload 5, 2) := by decide +kernel
theorem d_Mo_enter_29 : decode c_Mo_enter 29 = .ok (.ifCond .eq 9, 3) := by decide +kernel
theorem d_Mo_enter_32 : decode c_Mo_enter 32 = .ok (.sipush (-9999), 3) := by decide +kernel
theorem d_Mo_enter_35 : decode c_Mo_enter 35 = .ok (.goto 4, 3) := by decide +kernel
theorem d_Mo_enter_38 : decode c_Mo_enter 38 = .ok (.iconst 0, 1) := by decide +kernel
theorem d_Mo_enter_39 : decode c_Mo_enter 39 = .ok (.if_icmp .ge 7, 3) := by decide +kernel
theorem d_Mo_enter_42 : decode c_Mo_enter 42 = .ok (.iconst 1, 1) := by decide +kernel
theorem d_Mo_enter_43 : decode c_Mo_enter 43 = .ok (.goto 4, 3) := by decide +kernel
theorem d_Mo_enter_46 : decode c_Mo_enter 46 = .ok (.iconst 0, 1) := by decide +kernel
theorem d_Mo_enter_47 : decode c_Mo_enter 47 = .ok (.istore 6, 2) := by decide +kernel
theorem d_Mo_enter_49 : decode c_Mo_enter 49 = .ok (.aload_n 0, 1) := by decide +kernel
theorem d_Mo_enter_50 : decode c_Mo_enter 50 = .ok (.iload 6, 2) := by decide +kernel
theorem d_Mo_enter_52 : decode c_Mo_enter 52 = .ok (.ifCond .eq 7, 3) := by decide +kernel
theorem d_Mo_enter_55 : decode c_Mo_enter 55 = .ok (.iconst 1, 1) := by decide +kernel
theorem d_Mo_enter_56 : decode c_Mo_enter 56 = .ok (.goto 17, 3) := by decide +kernel
theorem d_Mo_enter_59 : decode c_Mo_enter 59 = .ok (.aload_n 0, 1) := by decide +kernel
theorem d_Mo_enter_60 : decode c_Mo_enter 60 = .ok (.getfield 66, 3) := by decide +kernel
theorem d_Mo_enter_63 : decode c_Mo_enter 63 = .ok (.bipush 60, 2) := by decide +kernel
theorem d_Mo_enter_65 : decode c_Mo_enter 65 = .ok (.if_icmp .ne 7, 3) := by decide +kernel
theorem d_Mo_enter_68 : decode c_Mo_enter 68 = .ok (.iconst 2, 1) := by decide +kernel
theorem d_Mo_enter_69 : decode c_Mo_enter 69 = .ok (.goto 4, 3) := by decide +kernel
theorem d_Mo_enter_72 : decode c_Mo_enter 72 = .ok (.iconst 0, 1) := by decide +kernel
theorem d_Mo_enter_73 : decode c_Mo_enter 73 = .ok (.putfield 55, 3) := by decide +kernel
theorem d_Mo_enter_76 : decode c_Mo_enter 76 = .ok (.aload_n 0, 1) := by decide +kernel
theorem d_Mo_enter_77 : decode c_Mo_enter 77 = .ok (.getfield 55, 3) := by decide +kernel
theorem d_Mo_enter_80 : decode c_Mo_enter 80 = .ok (.ifCond .eq 5, 3) := by decide +kernel
theorem d_Mo_enter_83 : decode c_Mo_enter 83 = .ok (.iconst 0, 1) := by decide +kernel
theorem d_Mo_enter_84 : decode c_Mo_enter 84 = .ok (.ireturn, 1) := by decide +kernel
theorem d_Mo_enter_85 : decode c_Mo_enter 85 = .ok (.aload_n 0, 1) := by decide +kernel
theorem d_Mo_enter_86 : decode c_Mo_enter 86 = .ok (.getfield 7, 3) := by decide +kernel
theorem d_Mo_enter_89 : decode c_Mo_enter 89 = .ok (.aload_n 0, 1) := by decide +kernel
theorem d_Mo_enter_90 : decode c_Mo_enter 90 = .ok (.getfield 66, 3) := by decide +kernel
theorem d_Mo_enter_93 : decode c_Mo_enter 93 = .ok (.iload_n 1, 1) := by decide +kernel
theorem d_Mo_enter_94 : decode c_Mo_enter 94 = .ok (.iastore, 1) := by decide +kernel
theorem d_Mo_enter_95 : decode c_Mo_enter 95 = .ok (.aload_n 0, 1) := by decide +kernel
theorem d_Mo_enter_96 : decode c_Mo_enter 96 = .ok (.getfield 13, 3) := by decide +kernel
theorem d_Mo_enter_99 : decode c_Mo_enter 99 = .ok (.aload_n 0, 1) := by decide +kernel
theorem d_Mo_enter_100 : decode c_Mo_enter 100 = .ok (.getfield 66, 3) := by decide +kernel
theorem d_Mo_enter_103 : decode c_Mo_enter 103 = .ok (.iload_n 2, 1) := by decide +kernel
theorem d_Mo_enter_104 : decode c_Mo_enter 104 = .ok (.iastore, 1) := by decide +kernel
theorem d_Mo_enter_105 : decode c_Mo_enter 105 = .ok (.aload_n 0, 1) := by decide +kernel
theorem d_Mo_enter_106 : decode c_Mo_enter 106 = .ok (.getfield 16, 3) := by decide +kernel
theorem d_Mo_enter_109 : decode c_Mo_enter 109 = .ok (.aload_n 0, 1) := by decide +kernel
theorem d_Mo_enter_110 : decode c_Mo_enter 110 = .ok (.getfield 66, 3) := by decide +kernel
theorem d_Mo_enter_113 : decode c_Mo_enter 113 = .ok (.iload_n 3, 1) := by decide +kernel
theorem d_Mo_enter_114 : decode c_Mo_enter 114 = .ok (.iastore, 1) := by decide +kernel
theorem d_Mo_enter_115 : decode c_Mo_enter 115 = .ok (.aload_n 0, 1) := by decide +kernel
theorem d_Mo_enter_116 : decode c_Mo_enter 116 = .ok (.getfield 19, 3) := by decide +kernel
theorem d_Mo_enter_119 : decode c_Mo_enter 119 = .ok (.aload_n 0, 1) := by decide +kernel
theorem d_Mo_enter_120 : decode c_Mo_enter 120 = .ok (.getfield 66, 3) := by decide +kernel
theorem d_Mo_enter_123 : decode c_Mo_enter 123 = .ok (.iload 4, 2) := by decide +kernel
theorem d_Mo_enter_125 : decode c_Mo_enter 125 = .ok (.iastore, 1) := by decide +kernel
theorem d_Mo_enter_126 : decode c_Mo_enter 126 = .ok (.aload_n 0, 1) := by decide +kernel
theorem d_Mo_enter_127 : decode c_Mo_enter 127 = .ok (.getfield 22, 3) := by decide +kernel
theorem d_Mo_enter_130 : decode c_Mo_enter 130 = .ok (.aload_n 0, 1) := by decide +kernel
theorem d_Mo_enter_131 : decode c_Mo_enter 131 = .ok (.getfield 66, 3) := by decide +kernel
theorem d_Mo_enter_134 : decode c_Mo_enter 134 = .ok (.iload 5, 2) := by decide +kernel
theorem d_Mo_enter_136 : decode c_Mo_enter 136 = .ok (.bastore, 1) := by decide +kernel
theorem d_Mo_enter_137 : decode c_Mo_enter 137 = .ok (.aload_n 0, 1) := by decide +kernel
theorem d_Mo_enter_138 : decode c_Mo_enter 138 = .ok (.getfield 26, 3) := by decide +kernel
theorem d_Mo_enter_141 : decode c_Mo_enter 141 = .ok (.aload_n 0, 1) := by decide +kernel
theorem d_Mo_enter_142 : decode c_Mo_enter 142 = .ok (.getfield 66, 3) := by decide +kernel
theorem d_Mo_enter_145 : decode c_Mo_enter 145 = .ok (.iconst 0, 1) := by decide +kernel
theorem d_Mo_enter_146 : decode c_Mo_enter 146 = .ok (.bastore, 1) := by decide +kernel
theorem d_Mo_enter_147 : decode c_Mo_enter 147 = .ok (.aload_n 0, 1) := by decide +kernel
theorem d_Mo_enter_148 : decode c_Mo_enter 148 = .ok (.dup, 1) := by decide +kernel
theorem d_Mo_enter_149 : decode c_Mo_enter 149 = .ok (.getfield 66, 3) := by decide +kernel
theorem d_Mo_enter_152 : decode c_Mo_enter 152 = .ok (.iconst 1, 1) := by decide +kernel
theorem d_Mo_enter_153 : decode c_Mo_enter 153 = .ok (.iadd, 1) := by decide +kernel
theorem d_Mo_enter_154 : decode c_Mo_enter 154 = .ok (.putfield 66, 3) := by decide +kernel
theorem d_Mo_enter_157 : decode c_Mo_enter 157 = .ok (.aload_n 0, 1) := by decide +kernel
theorem d_Mo_enter_158 : decode c_Mo_enter 158 = .ok (.getfield 66, 3) := by decide +kernel
theorem d_Mo_enter_161 : decode c_Mo_enter 161 = .ok (.iconst 1, 1) := by decide +kernel
theorem d_Mo_enter_162 : decode c_Mo_enter 162 = .ok (.isub, 1) := by decide +kernel
theorem d_Mo_enter_163 : decode c_Mo_enter 163 = .ok (.ireturn, 1) := by decide +kernel
set_option maxHeartbeats 4000000 in
set_option maxRecDepth 100000 in
theorem s_Mo_enter (l : Launch) (g : Gx) (ws0 : va_W) (sz : Nat) {s : MS} {a1 : Int32} {a2 : Int32} {a3 : Int32} {a4 : Int32} {a5 : Int32} {res : (Int32 × MS)} (hR : ms_Rel g ws0 ws0 s) (h : fn_Mo_enter s a1 a2 a3 a4 a5 = some res) : ct_MI l y_Mo_enter c_Mo_enter 7 (some .int) rm_Mo_enter g ws0 sz [.ref (g.2.1 35), .int a1, .int a2, .int a3, .int a4, .int a5] res.1 (fun u => ms_Rel g ws0 u res.2) := by
  refine ct_starti (by decide +kernel) (Nat.le_of_ble_eq_true rfl) (fun p e sv m args below meth c ls Q A H locs C0 hret hl hw => ?_)
  have hx := C0.1
  have hb := C0.2.1
  have hown := C0.2.2.2.1
  have hts := C0.2.2.2.2.1
  have hl : lv_has ls 7 [(0, .ref (g.2.1 35)), (1, .int a1), (2, .int a2), (3, .int a3), (4, .int a4), (5, .int a5)] := hl
  have J73 : ∀ (ws : va_W) (H : Heap) (locs : List Loc) (ls : Array Slot) (s : MS) (t1 : Int32), ct_Wd g A sv ws H locs → ms_Rel g ws0 ws s → lv_has ls 7 [(0, .ref (g.2.1 35)), (1, .int a1), (2, .int a2), (3, .int a3), (4, .int a4), (5, .int a5)] → bk_Mo_enter_73 a1 a2 a3 a4 a5 s t1 = some res → W p l e rm_Mo_enter sv m args below meth c H locs 0 0 Q (F0 m 73 ls [.int t1, .ref (g.2.1 35)]) := by
    intro ws H locs ls s t1 hw hR hl h
    unfold bk_Mo_enter_73 at h
    refine pf_Mo_55 C0 hw hR d_Mo_enter_73 (fun ws H locs hw hR => ?_)
    obtain ⟨s1, es9, h⟩ := ct_nm_ex h
    rw [← es9] at hR
    clear es9
    refine lv_aload_n hx hb d_Mo_enter_76 rfl (lv_at hl 0 rfl) ?_
    refine gf_Mo_55 C0 hw hR d_Mo_enter_77 ?_
    refine lv_if_eq hx hb (tgt := 85) d_Mo_enter_80 (by decide) (fun hc9 => ?_) (fun hc9 => ?_)
    · rw [if_pos hc9] at h
      refine lv_aload_n hx hb d_Mo_enter_85 rfl (lv_at hl 0 rfl) ?_
      refine gf_Mo_7 C0 hw hR d_Mo_enter_86 ?_
      refine lv_aload_n hx hb d_Mo_enter_89 rfl (lv_at hl 0 rfl) ?_
      refine gf_Mo_66 C0 hw hR d_Mo_enter_90 ?_
      refine lv_iload_n hx hb d_Mo_enter_93 rfl (lv_at hl 1 rfl) ?_
      obtain ⟨hg94, h⟩ := ct_gd_some h
      refine ct_stma0 C0 hw hR (ct_inR_vp hg94) d_Mo_enter_94 (fun ws H locs hw hR => ?_)
      obtain ⟨s2, es9, h⟩ := ct_nm_ex h
      rw [← es9] at hR
      clear es9
      refine lv_aload_n hx hb d_Mo_enter_95 rfl (lv_at hl 0 rfl) ?_
      refine gf_Mo_13 C0 hw hR d_Mo_enter_96 ?_
      refine lv_aload_n hx hb d_Mo_enter_99 rfl (lv_at hl 0 rfl) ?_
      refine gf_Mo_66 C0 hw hR d_Mo_enter_100 ?_
      refine lv_iload_n hx hb d_Mo_enter_103 rfl (lv_at hl 2 rfl) ?_
      obtain ⟨hg104, h⟩ := ct_gd_some h
      refine ct_stma1 C0 hw hR (ct_inR_vp hg104) d_Mo_enter_104 (fun ws H locs hw hR => ?_)
      obtain ⟨s3, es9, h⟩ := ct_nm_ex h
      rw [← es9] at hR
      clear es9
      refine lv_aload_n hx hb d_Mo_enter_105 rfl (lv_at hl 0 rfl) ?_
      refine gf_Mo_16 C0 hw hR d_Mo_enter_106 ?_
      refine lv_aload_n hx hb d_Mo_enter_109 rfl (lv_at hl 0 rfl) ?_
      refine gf_Mo_66 C0 hw hR d_Mo_enter_110 ?_
      refine lv_iload_n hx hb d_Mo_enter_113 rfl (lv_at hl 3 rfl) ?_
      obtain ⟨hg114, h⟩ := ct_gd_some h
      refine ct_stma2 C0 hw hR (ct_inR_vp hg114) d_Mo_enter_114 (fun ws H locs hw hR => ?_)
      obtain ⟨s4, es9, h⟩ := ct_nm_ex h
      rw [← es9] at hR
      clear es9
      refine lv_aload_n hx hb d_Mo_enter_115 rfl (lv_at hl 0 rfl) ?_
      refine gf_Mo_19 C0 hw hR d_Mo_enter_116 ?_
      refine lv_aload_n hx hb d_Mo_enter_119 rfl (lv_at hl 0 rfl) ?_
      refine gf_Mo_66 C0 hw hR d_Mo_enter_120 ?_
      refine lv_iload hx hb d_Mo_enter_123 (lv_at hl 4 rfl) ?_
      obtain ⟨hg125, h⟩ := ct_gd_some h
      refine ct_stma3 C0 hw hR (ct_inR_vp hg125) d_Mo_enter_125 (fun ws H locs hw hR => ?_)
      obtain ⟨s5, es9, h⟩ := ct_nm_ex h
      rw [← es9] at hR
      clear es9
      refine lv_aload_n hx hb d_Mo_enter_126 rfl (lv_at hl 0 rfl) ?_
      refine gf_Mo_22 C0 hw hR d_Mo_enter_127 ?_
      refine lv_aload_n hx hb d_Mo_enter_130 rfl (lv_at hl 0 rfl) ?_
      refine gf_Mo_66 C0 hw hR d_Mo_enter_131 ?_
      refine lv_iload hx hb d_Mo_enter_134 (lv_at hl 5 rfl) ?_
      obtain ⟨hg136, h⟩ := ct_gd_some h
      refine ct_stma4 C0 hw hR (ct_inR_vp hg136) d_Mo_enter_136 (fun ws H locs hw hR => ?_)
      obtain ⟨s6, es9, h⟩ := ct_nm_ex h
      rw [← es9] at hR
      clear es9
      refine lv_aload_n hx hb d_Mo_enter_137 rfl (lv_at hl 0 rfl) ?_
      refine gf_Mo_26 C0 hw hR d_Mo_enter_138 ?_
      refine lv_aload_n hx hb d_Mo_enter_141 rfl (lv_at hl 0 rfl) ?_
      refine gf_Mo_66 C0 hw hR d_Mo_enter_142 ?_
      refine lv_iconst (v := 0) hx hb d_Mo_enter_145 (by decide) ?_
      obtain ⟨hg146, h⟩ := ct_gd_some h
      refine ct_stma5 C0 hw hR (ct_inR_vp hg146) d_Mo_enter_146 (fun ws H locs hw hR => ?_)
      obtain ⟨s7, es9, h⟩ := ct_nm_ex h
      rw [← es9] at hR
      clear es9
      refine lv_aload_n hx hb d_Mo_enter_147 rfl (lv_at hl 0 rfl) ?_
      refine lv_dup hx hb d_Mo_enter_148 rfl ?_
      refine gf_Mo_66 C0 hw hR d_Mo_enter_149 ?_
      refine lv_iconst (v := 1) hx hb d_Mo_enter_152 (by decide) ?_
      refine lv_iadd hx hb d_Mo_enter_153 ?_
      refine pf_Mo_66 C0 hw hR d_Mo_enter_154 (fun ws H locs hw hR => ?_)
      obtain ⟨s8, es9, h⟩ := ct_nm_ex h
      rw [← es9] at hR
      clear es9
      refine lv_aload_n hx hb d_Mo_enter_157 rfl (lv_at hl 0 rfl) ?_
      refine gf_Mo_66 C0 hw hR d_Mo_enter_158 ?_
      refine lv_iconst (v := 1) hx hb d_Mo_enter_161 (by decide) ?_
      refine lv_isub hx hb d_Mo_enter_162 ?_
      obtain rfl := Option.some.inj h
      exact hret hw hR d_Mo_enter_163
    · rw [if_neg hc9] at h
      refine lv_iconst (v := 0) hx hb d_Mo_enter_83 (by decide) ?_
      obtain rfl := Option.some.inj h
      exact hret hw hR d_Mo_enter_84
  have J47 : ∀ (ws : va_W) (H : Heap) (locs : List Loc) (ls : Array Slot) (s : MS) (t0 : Int32), ct_Wd g A sv ws H locs → ms_Rel g ws0 ws s → lv_has ls 7 [(0, .ref (g.2.1 35)), (1, .int a1), (2, .int a2), (3, .int a3), (4, .int a4), (5, .int a5)] → bk_Mo_enter_47 a1 a2 a3 a4 a5 s t0 = some res → W p l e rm_Mo_enter sv m args below meth c H locs 0 0 Q (F0 m 47 ls [.int t0]) := by
    intro ws H locs ls s t0 hw hR hl h
    unfold bk_Mo_enter_47 at h
    refine lv_istore (lv' := [(6, .int t0), (0, .ref (g.2.1 35)), (1, .int a1), (2, .int a2), (3, .int a3), (4, .int a4), (5, .int a5)]) hx hb d_Mo_enter_47 hl (by decide) rfl (fun ls hl => ?_)
    refine lv_aload_n hx hb d_Mo_enter_49 rfl (lv_at hl 1 rfl) ?_
    refine lv_iload hx hb d_Mo_enter_50 (lv_at hl 0 rfl) ?_
    refine lv_if_eq hx hb (tgt := 59) d_Mo_enter_52 (by decide) (fun hc9 => ?_) (fun hc9 => ?_)
    · rw [if_pos hc9] at h
      refine lv_aload_n hx hb d_Mo_enter_59 rfl (lv_at hl 1 rfl) ?_
      refine gf_Mo_66 C0 hw hR d_Mo_enter_60 ?_
      refine lv_bipush (v := 60) hx hb d_Mo_enter_63 (by decide) ?_
      refine lv_icmp_ne hx hb (tgt := 72) d_Mo_enter_65 (by decide) (fun hc9 => ?_) (fun hc9 => ?_)
      · rw [if_pos hc9] at h
        refine lv_iconst (v := 0) hx hb d_Mo_enter_72 (by decide) ?_
        exact J73 ws H locs ls s 0 hw hR (lv_sub hl [1, 2, 3, 4, 5, 6] rfl) h
      · rw [if_neg (fun q => q hc9)] at h
        refine lv_iconst (v := 2) hx hb d_Mo_enter_68 (by decide) ?_
        refine lv_goto hx hb (tgt := 73) d_Mo_enter_69 (by decide) ?_
        exact J73 ws H locs ls s 2 hw hR (lv_sub hl [1, 2, 3, 4, 5, 6] rfl) h
    · rw [if_neg hc9] at h
      refine lv_iconst (v := 1) hx hb d_Mo_enter_55 (by decide) ?_
      refine lv_goto hx hb (tgt := 73) d_Mo_enter_56 (by decide) ?_
      exact J73 ws H locs ls s 1 hw hR (lv_sub hl [1, 2, 3, 4, 5, 6] rfl) h
  have J39 : ∀ (ws : va_W) (H : Heap) (locs : List Loc) (ls : Array Slot) (s : MS) (t0 : Int32) (t1 : Int32), ct_Wd g A sv ws H locs → ms_Rel g ws0 ws s → lv_has ls 7 [(0, .ref (g.2.1 35)), (1, .int a1), (2, .int a2), (3, .int a3), (4, .int a4), (5, .int a5)] → bk_Mo_enter_39 a1 a2 a3 a4 a5 s t0 t1 = some res → W p l e rm_Mo_enter sv m args below meth c H locs 0 0 Q (F0 m 39 ls [.int t1, .int t0]) := by
    intro ws H locs ls s t0 t1 hw hR hl h
    unfold bk_Mo_enter_39 at h
    refine lv_icmp_ge hx hb (tgt := 46) d_Mo_enter_39 (by decide) (fun hc9 => ?_) (fun hc9 => ?_)
    · rw [if_pos hc9] at h
      refine lv_iconst (v := 0) hx hb d_Mo_enter_46 (by decide) ?_
      exact J47 ws H locs ls s 0 hw hR (lv_sub hl [0, 1, 2, 3, 4, 5] rfl) h
    · rw [if_neg hc9] at h
      refine lv_iconst (v := 1) hx hb d_Mo_enter_42 (by decide) ?_
      refine lv_goto hx hb (tgt := 47) d_Mo_enter_43 (by decide) ?_
      exact J47 ws H locs ls s 1 hw hR (lv_sub hl [0, 1, 2, 3, 4, 5] rfl) h
  unfold fn_Mo_enter at h
  obtain ⟨ws, hwe⟩ : ∃ z : va_W, z = ws0 := ⟨_, rfl⟩
  rw [← hwe] at hw
  have hR : ms_Rel g ws0 ws s := by rw [hwe]; exact hR
  clear hwe
  refine lv_aload_n hx hb d_Mo_enter_0 rfl (lv_at hl 0 rfl) ?_
  refine lv_iload_n hx hb d_Mo_enter_1 rfl (lv_at hl 1 rfl) ?_
  obtain ⟨x9, ho, h⟩ := ct_ob_some h
  refine ct_callVi C0 hw hl.1 (q0 := 35) (hR.1 35 (by decide) (by decide)) rfl (ct_giV wd_802 wd_804 sel_Mo_noLine wd_7 wd_805) (fun sz => s_Mo_noLine l g ws sz ho) (nA := 1) (rm := rm_Mo_noLine) (by decide +kernel) rfl ⟨rfl, rfl⟩ (by decide) (by decide) (As := [.int a1]) (rest := []) rfl (Nat.le_of_ble_eq_true rfl) d_Mo_enter_2 (fun ws1 H locs hw hp => ?_)
  rw [hp] at hw
  clear hp
  refine lv_if_ne hx hb (tgt := 42) d_Mo_enter_5 (by decide) (fun hc9 => ?_) (fun hc9 => ?_)
  · rw [if_pos hc9] at h
    refine lv_iconst (v := 1) hx hb d_Mo_enter_42 (by decide) ?_
    refine lv_goto hx hb (tgt := 47) d_Mo_enter_43 (by decide) ?_
    exact J47 ws H locs ls s 1 hw hR (lv_sub hl [0, 1, 2, 3, 4, 5] rfl) h
  · rw [if_neg (fun q => q hc9)] at h
    refine lv_aload_n hx hb d_Mo_enter_8 rfl (lv_at hl 0 rfl) ?_
    refine lv_iload_n hx hb d_Mo_enter_9 rfl (lv_at hl 2 rfl) ?_
    refine lv_iload_n hx hb d_Mo_enter_10 rfl (lv_at hl 3 rfl) ?_
    obtain ⟨x10, ho, h⟩ := ct_ob_some h
    refine ct_callVi C0 hw hl.1 (q0 := 35) (hR.1 35 (by decide) (by decide)) rfl (ct_giV wd_806 wd_808 sel_Mo_noMonths wd_7 wd_809) (fun sz => s_Mo_noMonths l g ws sz ho) (nA := 2) (rm := rm_Mo_noMonths) (by decide +kernel) rfl ⟨rfl, rfl⟩ (by decide) (by decide) (As := [.int a2, .int a3]) (rest := []) rfl (Nat.le_of_ble_eq_true rfl) d_Mo_enter_11 (fun ws1 H locs hw hp => ?_)
    rw [hp] at hw
    clear hp
    refine lv_if_ne hx hb (tgt := 42) d_Mo_enter_14 (by decide) (fun hc9 => ?_) (fun hc9 => ?_)
    · rw [if_pos hc9] at h
      refine lv_iconst (v := 1) hx hb d_Mo_enter_42 (by decide) ?_
      refine lv_goto hx hb (tgt := 47) d_Mo_enter_43 (by decide) ?_
      exact J47 ws H locs ls s 1 hw hR (lv_sub hl [0, 1, 2, 3, 4, 5] rfl) h
    · rw [if_neg (fun q => q hc9)] at h
      refine lv_iload hx hb d_Mo_enter_17 (lv_at hl 4 rfl) ?_
      refine lv_sipush (v := 9999) hx hb d_Mo_enter_19 (by decide) ?_
      refine lv_icmp_gt hx hb (tgt := 42) d_Mo_enter_22 (by decide) (fun hc9 => ?_) (fun hc9 => ?_)
      · rw [if_pos hc9] at h
        refine lv_iconst (v := 1) hx hb d_Mo_enter_42 (by decide) ?_
        refine lv_goto hx hb (tgt := 47) d_Mo_enter_43 (by decide) ?_
        exact J47 ws H locs ls s 1 hw hR (lv_sub hl [0, 1, 2, 3, 4, 5] rfl) h
      · rw [if_neg hc9] at h
        refine lv_iload hx hb d_Mo_enter_25 (lv_at hl 4 rfl) ?_
        refine lv_iload hx hb d_Mo_enter_27 (lv_at hl 5 rfl) ?_
        refine lv_if_eq hx hb (tgt := 38) d_Mo_enter_29 (by decide) (fun hc9 => ?_) (fun hc9 => ?_)
        · rw [if_pos hc9] at h
          refine lv_iconst (v := 0) hx hb d_Mo_enter_38 (by decide) ?_
          exact J39 ws H locs ls s a4 0 hw hR (lv_sub hl [0, 1, 2, 3, 4, 5] rfl) h
        · rw [if_neg hc9] at h
          refine lv_sipush (v := (-9999)) hx hb d_Mo_enter_32 (by decide) ?_
          refine lv_goto hx hb (tgt := 39) d_Mo_enter_35 (by decide) ?_
          exact J39 ws H locs ls s a4 (-9999) hw hR (lv_sub hl [0, 1, 2, 3, 4, 5] rfl) h

