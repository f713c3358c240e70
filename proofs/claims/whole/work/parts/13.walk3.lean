theorem d_Fr_becomeWhole_0 : decode c_Fr_becomeWhole 0 = .ok (.aload_n 0, 1) := by decide +kernel
theorem d_Fr_becomeWhole_1 : decode c_Fr_becomeWhole 1 = .ok (.lload_n 1, 1) := by decide +kernel
theorem d_Fr_becomeWhole_2 : decode c_Fr_becomeWhole 2 = .ok (.putfield 19, 3) := by decide +kernel
theorem d_Fr_becomeWhole_5 : decode c_Fr_becomeWhole 5 = .ok (.aload_n 0, 1) := by decide +kernel
theorem d_Fr_becomeWhole_6 : decode c_Fr_becomeWhole 6 = .ok (.lconst 1, 1) := by decide +kernel
theorem d_Fr_becomeWhole_7 : decode c_Fr_becomeWhole 7 = .ok (.putfield 9, 3) := by decide +kernel
theorem d_Fr_becomeWhole_10 : decode c_Fr_becomeWhole 10 = .ok (.aload_n 0, 1) := by decide +kernel
theorem d_Fr_becomeWhole_11 : decode c_Fr_becomeWhole 11 = .ok (.iconst 0, 1) := by decide +kernel
theorem d_Fr_becomeWhole_12 : decode c_Fr_becomeWhole 12 = .ok (.putfield 15, 3) := by decide +kernel
theorem d_Fr_becomeWhole_15 : decode c_Fr_becomeWhole 15 = .ok (.return_, 1) := by decide +kernel
set_option maxHeartbeats 4000000 in
set_option maxRecDepth 100000 in
theorem s_Fr_becomeWhole (l : Launch) (g : Gx) (ws0 : va_W) (sz : Nat) {s : CS} {f : Nat} {a1 : Int64} {res : CS} (hR : cs_Rel g ws0 ws0 s) (hf : f < 12) (h : fn_Fr_becomeWhole s f a1 = some res) : ct_MV l y_Fr_becomeWhole c_Fr_becomeWhole 3 none rm_Fr_becomeWhole g ws0 sz [.ref (g.2.1 (23 + f)), .long a1]  (fun u => cs_Rel g ws0 u res) := by
  refine ct_startv (by decide +kernel) (Nat.le_of_ble_eq_true rfl) (fun p e sv m args below meth c ls Q A H locs C0 hret hl hw => ?_)
  have hx := C0.1
  have hb := C0.2.1
  have hown := C0.2.2.2.1
  have hts := C0.2.2.2.2.1
  have hl : lv_has ls 3 [(0, .ref (g.2.1 (23 + f))), (1, .long a1)] := hl
  unfold fn_Fr_becomeWhole at h
  obtain ⟨ws, hwe⟩ : ∃ z : va_W, z = ws0 := ⟨_, rfl⟩
  rw [← hwe] at hw
  have hR : cs_Rel g ws0 ws s := by rw [hwe]; exact hR
  clear hwe
  refine lv_aload_n hx hb d_Fr_becomeWhole_0 rfl (lv_at hl 0 rfl) ?_
  refine lv_lload_n hx hb d_Fr_becomeWhole_1 rfl (lv_at hl 1 rfl) ?_
  refine pf_Fr_19 (f := f) hf C0 hw hR d_Fr_becomeWhole_2 (fun ws H locs hw hR => ?_)
  obtain ⟨s1, es9, h⟩ := ct_nm_ex h
  rw [← es9] at hR
  clear es9
  refine lv_aload_n hx hb d_Fr_becomeWhole_5 rfl (lv_at hl 0 rfl) ?_
  refine lv_lconst (v := 1) hx hb d_Fr_becomeWhole_6 (by decide) ?_
  refine pf_Fr_9 (f := f) hf C0 hw hR d_Fr_becomeWhole_7 (fun ws H locs hw hR => ?_)
  obtain ⟨s2, es9, h⟩ := ct_nm_ex h
  rw [← es9] at hR
  clear es9
  refine lv_aload_n hx hb d_Fr_becomeWhole_10 rfl (lv_at hl 0 rfl) ?_
  refine lv_iconst (v := 0) hx hb d_Fr_becomeWhole_11 (by decide) ?_
  refine pf_Fr_15 (f := f) hf C0 hw hR d_Fr_becomeWhole_12 (fun ws H locs hw hR => ?_)
  obtain ⟨s3, es9, h⟩ := ct_nm_ex h
  rw [← es9] at hR
  clear es9
  obtain rfl := Option.some.inj h
  exact hret hw hR d_Fr_becomeWhole_15

theorem d_Fr_fits_0 : decode c_Fr_fits 0 = .ok (.lload_n 2, 1) := by decide +kernel
theorem d_Fr_fits_1 : decode c_Fr_fits 1 = .ok (.lconst 0, 1) := by decide +kernel
theorem d_Fr_fits_2 : decode c_Fr_fits 2 = .ok (.lcmp, 1) := by decide +kernel
theorem d_Fr_fits_3 : decode c_Fr_fits 3 = .ok (.ifCond .eq 19, 3) := by decide +kernel
theorem d_Fr_fits_6 : decode c_Fr_fits 6 = .ok (.lload_n 0, 1) := by decide +kernel
theorem d_Fr_fits_7 : decode c_Fr_fits 7 = .ok (.invokestatic 40, 3) := by decide +kernel
theorem d_Fr_fits_10 : decode c_Fr_fits 10 = .ok (.ldc2_w 36, 3) := by decide +kernel
theorem d_Fr_fits_13 : decode c_Fr_fits 13 = .ok (.lload_n 2, 1) := by decide +kernel
theorem d_Fr_fits_14 : decode c_Fr_fits 14 = .ok (.invokestatic 40, 3) := by decide +kernel
theorem d_Fr_fits_17 : decode c_Fr_fits 17 = .ok (.ldiv, 1) := by decide +kernel
theorem d_Fr_fits_18 : decode c_Fr_fits 18 = .ok (.lcmp, 1) := by decide +kernel
theorem d_Fr_fits_19 : decode c_Fr_fits 19 = .ok (.ifCond .gt 7, 3) := by decide +kernel
theorem d_Fr_fits_22 : decode c_Fr_fits 22 = .ok (.iconst 1, 1) := by decide +kernel
theorem d_Fr_fits_23 : decode c_Fr_fits 23 = .ok (.goto 4, 3) := by decide +kernel
theorem d_Fr_fits_26 : decode c_Fr_fits 26 = .ok (.iconst 0, 1) := by decide +kernel
theorem d_Fr_fits_27 : decode c_Fr_fits 27 = .ok (.ireturn, 1) := by decide +kernel
set_option maxHeartbeats 4000000 in
set_option maxRecDepth 100000 in
theorem s_Fr_fits (l : Launch) (g : Gx) (ws0 : va_W) (sz : Nat) {a1 : Int64} {a2 : Int64} {res : Int32} (h : fn_Fr_fits a1 a2 = some res) : ct_MI l y_Fr_fits c_Fr_fits 4 (some .boolean) rm_Fr_fits g ws0 sz [.long a1, .long a2] res (fun u => u = ws0) := by
  refine ct_startz (by decide +kernel) (Nat.le_of_ble_eq_true rfl) (fun p e sv m args below meth c ls Q A H locs C0 hret hl hw => ?_)
  have hx := C0.1
  have hb := C0.2.1
  have hown := C0.2.2.2.1
  have hts := C0.2.2.2.2.1
  have hl : lv_has ls 4 [(0, .long a1), (2, .long a2)] := hl
  unfold fn_Fr_fits at h
  refine lv_lload_n hx hb d_Fr_fits_0 rfl (lv_at hl 1 rfl) ?_
  refine lv_lconst (v := 0) hx hb d_Fr_fits_1 (by decide) ?_
  refine W.lcmp hx hb d_Fr_fits_2 ?_
  refine lv_if_eq hx hb (tgt := 22) d_Fr_fits_3 (by decide) (fun hc9 => ?_) (fun hc9 => ?_)
  · rw [if_pos hc9] at h
    refine lv_iconst (v := 1) hx hb d_Fr_fits_22 (by decide) ?_
    refine lv_goto hx hb (tgt := 27) d_Fr_fits_23 (by decide) ?_
    have hz : ct_isB 1 = true := by decide
    obtain rfl := Option.some.inj h
    exact hret hz hw rfl d_Fr_fits_27
  · rw [if_neg hc9] at h
    refine lv_lload_n hx hb d_Fr_fits_6 rfl (lv_at hl 0 rfl) ?_
    refine ma_Fr_40 C0 (by rw [C0.2.2.1]; exact hl.1.symm) (by decide) (Nat.le_of_ble_eq_true rfl) d_Fr_fits_7 ?_
    refine lv_ldc2 (v := 4611686018427387904) hx hb hown (hts _ wd_570) d_Fr_fits_10 ?_
    refine lv_lload_n hx hb d_Fr_fits_13 rfl (lv_at hl 1 rfl) ?_
    refine ma_Fr_40 C0 (by rw [C0.2.2.1]; exact hl.1.symm) (by decide) (Nat.le_of_ble_eq_true rfl) d_Fr_fits_14 ?_
    obtain ⟨hg, h⟩ := ct_gd_some h
    refine lv_ldiv hx hb d_Fr_fits_17 (ct_gzL_ne hg) ?_
    refine W.lcmp hx hb d_Fr_fits_18 ?_
    refine lv_if_gt hx hb (tgt := 26) d_Fr_fits_19 (by decide) (fun hc9 => ?_) (fun hc9 => ?_)
    · rw [if_pos hc9] at h
      refine lv_iconst (v := 0) hx hb d_Fr_fits_26 (by decide) ?_
      have hz : ct_isB 0 = true := by decide
      obtain rfl := Option.some.inj h
      exact hret hz hw rfl d_Fr_fits_27
    · rw [if_neg hc9] at h
      refine lv_iconst (v := 1) hx hb d_Fr_fits_22 (by decide) ?_
      refine lv_goto hx hb (tgt := 27) d_Fr_fits_23 (by decide) ?_
      have hz : ct_isB 1 = true := by decide
      obtain rfl := Option.some.inj h
      exact hret hz hw rfl d_Fr_fits_27

theorem d_Fr_times_0 : decode c_Fr_times 0 = .ok (.aload_n 0, 1) := by decide +kernel
theorem d_Fr_times_1 : decode c_Fr_times 1 = .ok (.aload_n 0, 1) := by decide +kernel
theorem d_Fr_times_2 : decode c_Fr_times 2 = .ok (.getfield 15, 3) := by decide +kernel
theorem d_Fr_times_5 : decode c_Fr_times 5 = .ok (.aload_n 1, 1) := by decide +kernel
theorem d_Fr_times_6 : decode c_Fr_times 6 = .ok (.getfield 15, 3) := by decide +kernel
theorem d_Fr_times_9 : decode c_Fr_times 9 = .ok (.invokestatic 26, 3) := by decide +kernel
theorem d_Fr_times_12 : decode c_Fr_times 12 = .ok (.putfield 15, 3) := by decide +kernel
theorem d_Fr_times_15 : decode c_Fr_times 15 = .ok (.aload_n 0, 1) := by decide +kernel
theorem d_Fr_times_16 : decode c_Fr_times 16 = .ok (.getfield 15, 3) := by decide +kernel
theorem d_Fr_times_19 : decode c_Fr_times 19 = .ok (.ifCond .eq 4, 3) := by decide +kernel
theorem d_Fr_times_22 : decode c_Fr_times 22 = .ok (.return_, 1) := by decide +kernel
theorem d_Fr_times_23 : decode c_Fr_times 23 = .ok (.aload_n 0, 1) := by decide +kernel
theorem d_Fr_times_24 : decode c_Fr_times 24 = .ok (.getfield 19, 3) := by decide +kernel
theorem d_Fr_times_27 : decode c_Fr_times 27 = .ok (.aload_n 1, 1) := by decide +kernel
theorem d_Fr_times_28 : decode c_Fr_times 28 = .ok (.getfield 9, 3) := by decide +kernel
theorem d_Fr_times_31 : decode c_Fr_times 31 = .ok (.invokestatic 22, 3) := by decide +kernel
theorem d_Fr_times_34 : decode c_Fr_times 34 = .ok (.lstore_n 2, 1) := by decide +kernel
theorem d_Fr_times_35 : decode c_Fr_times 35 = .ok (.aload_n 1, 1) := by decide +kernel
theorem d_Fr_times_36 : decode c_Fr_times 36 = .ok (.getfield 19, 3) := by decide +kernel
theorem d_Fr_times_39 : decode c_Fr_times 39 = .ok (.aload_n 0, 1) := by decide +kernel
theorem d_Fr_times_40 : decode c_Fr_times 40 = .ok (.getfield 9, 3) := by decide +kernel
theorem d_Fr_times_43 : decode c_Fr_times 43 = .ok (.invokestatic 22, 3) := by decide +kernel
theorem d_Fr_times_46 : decode c_Fr_times 46 = .ok (.lstore 4, 2) := by decide +kernel
theorem d_Fr_times_48 : decode c_Fr_times 48 = .ok (.aload_n 0, 1) := by decide +kernel
theorem d_Fr_times_49 : decode c_Fr_times 49 = .ok (.getfield 19, 3) := by decide +kernel
theorem d_Fr_times_52 : decode c_Fr_times 52 = .ok (.lload_n 2, 1) := by decide +kernel
theorem d_Fr_times_53 : decode c_Fr_times 53 = .ok (.ldiv, 1) := by decide +kernel
theorem d_Fr_times_54 : decode c_Fr_times 54 = .ok (.lstore 6, 2) := by decide +kernel
theorem d_Fr_times_56 : decode c_Fr_times 56 = .ok (.aload_n 0, 1) := by decide +kernel
theorem d_Fr_times_57 : decode c_Fr_times 57 = .ok (.getfield 9, 3) := by decide +kernel
theorem d_Fr_times_60 : decode c_Fr_times 60 = .ok (.lload 4, 2) := by decide +kernel
theorem d_Fr_times_62 : decode c_Fr_times 62 = .ok (.ldiv, 1) := by decide +kernel
theorem d_Fr_times_63 : decode c_Fr_times 63 = .ok (.lstore 8, 2) := by decide +kernel
theorem d_Fr_times_65 : decode c_Fr_times 65 = .ok (.aload_n 1, 1) := by decide +kernel
theorem d_Fr_times_66 : decode c_Fr_times 66 = .ok (.getfield 19, 3) := by decide +kernel
theorem d_Fr_times_69 : decode c_Fr_times 69 = .ok (.lload 4, 2) := by decide +kernel
theorem d_Fr_times_71 : decode c_Fr_times 71 = .ok (.ldiv, 1) := by decide +kernel
theorem d_Fr_times_72 : decode c_Fr_times 72 = .ok (.lstore 10, 2) := by decide +kernel
theorem d_Fr_times_74 : decode c_Fr_times 74 = .ok (.aload_n 1, 1) := by decide +kernel
theorem d_Fr_times_75 : decode c_Fr_times 75 = .ok (.getfield 9, 3) := by decide +kernel
theorem d_Fr_times_78 : decode c_Fr_times 78 = .ok (.lload_n 2, 1) := by decide +kernel
theorem d_Fr_times_79 : decode c_Fr_times 79 = .ok (.ldiv, 1) := by decide +kernel
theorem d_Fr_times_80 : decode c_Fr_times 80 = .ok (.lstore 12, 2) := by decide +kernel
theorem d_Fr_times_82 : decode c_Fr_times 82 = .ok (.lload 6, 2) := by decide +kernel
theorem d_Fr_times_84 : decode c_Fr_times 84 = .ok (.lload 10, 2) := by decide +kernel
theorem d_Fr_times_86 : decode c_Fr_times 86 = .ok (.invokestatic 32, 3) := by decide +kernel
theorem d_Fr_times_89 : decode c_Fr_times 89 = .ok (.ifCond .eq 13, 3) := by decide +kernel
theorem d_Fr_times_92 : decode c_Fr_times 92 = .ok (.lload 8, 2) := by decide +kernel
theorem d_Fr_times_94 : decode c_Fr_times 94 = .ok (.lload 12, 2) := by decide +kernel
theorem d_Fr_times_96 : decode c_Fr_times 96 = .ok (.invokestatic 32, 3) := by decide +kernel
theorem d_Fr_times_99 : decode c_Fr_times 99 = .ok (.ifCond .ne 9, 3) := by decide +kernel
theorem d_Fr_times_102 : decode c_Fr_times 102 = .ok (.aload_n 0, 1) := by decide +kernel
theorem d_Fr_times_103 : decode c_Fr_times 103 = .ok (.iconst 1, 1) := by decide +kernel
theorem d_Fr_times_104 : decode c_Fr_times 104 = .ok (.putfield 15, 3) := by decide +kernel
theorem d_Fr_times_107 : decode c_Fr_times 107 = .ok (.return_, 1) := by decide +kernel
theorem d_Fr_times_108 : decode c_Fr_times 108 = .ok (.aload_n 0, 1) := by decide +kernel
theorem d_Fr_times_109 : decode c_Fr_times 109 = .ok (.lload 6, 2) := by decide +kernel
theorem d_Fr_times_111 : decode c_Fr_times 111 = .ok (.lload 10, 2) := by decide +kernel
theorem d_Fr_times_113 : decode c_Fr_times 113 = .ok (.lmul, 1) := by decide +kernel
theorem d_Fr_times_114 : decode c_Fr_times 114 = .ok (.putfield 19, 3) := by decide +kernel
theorem d_Fr_times_117 : decode c_Fr_times 117 = .ok (.aload_n 0, 1) := by decide +kernel
theorem d_Fr_times_118 : decode c_Fr_times 118 = .ok (.lload 8, 2) := by decide +kernel
theorem d_Fr_times_120 : decode c_Fr_times 120 = .ok (.lload 12, 2) := by decide +kernel
theorem d_Fr_times_122 : decode c_Fr_times 122 = .ok (.lmul, 1) := by decide +kernel
theorem d_Fr_times_123 : decode c_Fr_times 123 = .ok (.putfield 9, 3) := by decide +kernel
theorem d_Fr_times_126 : decode c_Fr_times 126 = .ok (.return_, 1) := by decide +kernel
set_option maxHeartbeats 4000000 in
set_option maxRecDepth 100000 in
theorem s_Fr_times (l : Launch) (g : Gx) (ws0 : va_W) (sz : Nat) {s : CS} {f : Nat} {a1 : Nat} {res : CS} (hR : cs_Rel g ws0 ws0 s) (hf : f < 12) (ha1 : a1 < 12) (h : fn_Fr_times s f a1 = some res) : ct_MV l y_Fr_times c_Fr_times 14 none rm_Fr_times g ws0 sz [.ref (g.2.1 (23 + f)), .ref (g.2.1 (23 + a1))]  (fun u => cs_Rel g ws0 u res) := by
  refine ct_startv (by decide +kernel) (Nat.le_of_ble_eq_true rfl) (fun p e sv m args below meth c ls Q A H locs C0 hret hl hw => ?_)
  have hx := C0.1
  have hb := C0.2.1
  have hown := C0.2.2.2.1
  have hts := C0.2.2.2.2.1
  have hl : lv_has ls 14 [(0, .ref (g.2.1 (23 + f))), (1, .ref (g.2.1 (23 + a1)))] := hl
  have J102 : ∀ (ws : va_W) (H : Heap) (locs : List Loc) (ls : Array Slot) (s : CS), ct_Wd g A sv ws H locs → cs_Rel g ws0 ws s → lv_has ls 14 [(0, .ref (g.2.1 (23 + f)))] → bk_Fr_times_102 f a1 s = some res → W p l e rm_Fr_times sv m args below meth c H locs 0 0 Q (F0 m 102 ls []) := by
    intro ws H locs ls s hw hR hl h
    unfold bk_Fr_times_102 at h
    refine lv_aload_n hx hb d_Fr_times_102 rfl (lv_at hl 0 rfl) ?_
    refine lv_iconst (v := 1) hx hb d_Fr_times_103 (by decide) ?_
    refine pf_Fr_15 (f := f) hf C0 hw hR d_Fr_times_104 (fun ws H locs hw hR => ?_)
    obtain ⟨s1, es9, h⟩ := ct_nm_ex h
    rw [← es9] at hR
    clear es9
    obtain rfl := Option.some.inj h
    exact hret hw hR d_Fr_times_107
  unfold fn_Fr_times at h
  obtain ⟨ws, hwe⟩ : ∃ z : va_W, z = ws0 := ⟨_, rfl⟩
  rw [← hwe] at hw
  have hR : cs_Rel g ws0 ws s := by rw [hwe]; exact hR
  clear hwe
  refine lv_aload_n hx hb d_Fr_times_0 rfl (lv_at hl 0 rfl) ?_
  refine lv_aload_n hx hb d_Fr_times_1 rfl (lv_at hl 0 rfl) ?_
  refine gf_Fr_15 (f := f) hf C0 hw hR d_Fr_times_2 ?_
  refine lv_aload_n hx hb d_Fr_times_5 rfl (lv_at hl 1 rfl) ?_
  refine gf_Fr_15 (f := a1) ha1 C0 hw hR d_Fr_times_6 ?_
  refine ma_Fr_26 C0 (by rw [C0.2.2.1]; exact hl.1.symm) (by decide) (Nat.le_of_ble_eq_true rfl) d_Fr_times_9 ?_
  refine pf_Fr_15 (f := f) hf C0 hw hR d_Fr_times_12 (fun ws H locs hw hR => ?_)
  obtain ⟨s2, es9, h⟩ := ct_nm_ex h
  rw [← es9] at hR
  clear es9
  refine lv_aload_n hx hb d_Fr_times_15 rfl (lv_at hl 0 rfl) ?_
  refine gf_Fr_15 (f := f) hf C0 hw hR d_Fr_times_16 ?_
  refine lv_if_eq hx hb (tgt := 23) d_Fr_times_19 (by decide) (fun hc9 => ?_) (fun hc9 => ?_)
  · rw [if_pos hc9] at h
    refine lv_aload_n hx hb d_Fr_times_23 rfl (lv_at hl 0 rfl) ?_
    refine gf_Fr_19 (f := f) hf C0 hw hR d_Fr_times_24 ?_
    refine lv_aload_n hx hb d_Fr_times_27 rfl (lv_at hl 1 rfl) ?_
    refine gf_Fr_9 (f := a1) ha1 C0 hw hR d_Fr_times_28 ?_
    obtain ⟨x3, ho, h⟩ := ct_ob_some h
    refine ct_callSl C0 hw hl.1 (ct_giS wd_392 wd_393 wd_6 wd_394) (fun sz => s_Fr_divisor l g ws sz ho) (nA := 2) (rm := rm_Fr_divisor) (by decide +kernel) rfl ⟨rfl, rfl⟩ (by decide) (by decide) (As := [.long ((cs_F s2 f).1), .long ((cs_F s2 a1).2.1)]) (rest := []) rfl (Nat.le_of_ble_eq_true rfl) d_Fr_times_31 (fun ws1 H locs hw hp => ?_)
    rw [hp] at hw
    clear hp
    refine lv_lstore_n (lv' := [(2, .long x3), (0, .ref (g.2.1 (23 + f))), (1, .ref (g.2.1 (23 + a1)))]) hx hb d_Fr_times_34 rfl hl (by decide) rfl (fun ls hl => ?_)
    refine lv_aload_n hx hb d_Fr_times_35 rfl (lv_at hl 2 rfl) ?_
    refine gf_Fr_19 (f := a1) ha1 C0 hw hR d_Fr_times_36 ?_
    refine lv_aload_n hx hb d_Fr_times_39 rfl (lv_at hl 1 rfl) ?_
    refine gf_Fr_9 (f := f) hf C0 hw hR d_Fr_times_40 ?_
    obtain ⟨x4, ho, h⟩ := ct_ob_some h
    refine ct_callSl C0 hw hl.1 (ct_giS wd_392 wd_393 wd_6 wd_394) (fun sz => s_Fr_divisor l g ws sz ho) (nA := 2) (rm := rm_Fr_divisor) (by decide +kernel) rfl ⟨rfl, rfl⟩ (by decide) (by decide) (As := [.long ((cs_F s2 a1).1), .long ((cs_F s2 f).2.1)]) (rest := []) rfl (Nat.le_of_ble_eq_true rfl) d_Fr_times_43 (fun ws1 H locs hw hp => ?_)
    rw [hp] at hw
    clear hp
    refine lv_lstore (lv' := [(4, .long x4), (2, .long x3), (0, .ref (g.2.1 (23 + f))), (1, .ref (g.2.1 (23 + a1)))]) hx hb d_Fr_times_46 hl (by decide) rfl (fun ls hl => ?_)
    refine lv_aload_n hx hb d_Fr_times_48 rfl (lv_at hl 2 rfl) ?_
    refine gf_Fr_19 (f := f) hf C0 hw hR d_Fr_times_49 ?_
    refine lv_lload_n hx hb d_Fr_times_52 rfl (lv_at hl 1 rfl) ?_
    obtain ⟨hg, h⟩ := ct_gd_some h
    refine lv_ldiv hx hb d_Fr_times_53 (ct_gzL_ne hg) ?_
    refine lv_topl (fun x5 e9 => ?_)
    have h := ct_nm_at h e9
    clear e9
    refine lv_lstore (lv' := [(6, .long x5), (4, .long x4), (2, .long x3), (0, .ref (g.2.1 (23 + f))), (1, .ref (g.2.1 (23 + a1)))]) hx hb d_Fr_times_54 hl (by decide) rfl (fun ls hl => ?_)
    refine lv_aload_n hx hb d_Fr_times_56 rfl (lv_at hl 3 rfl) ?_
    refine gf_Fr_9 (f := f) hf C0 hw hR d_Fr_times_57 ?_
    refine lv_lload hx hb d_Fr_times_60 (lv_at hl 1 rfl) ?_
    obtain ⟨hg, h⟩ := ct_gd_some h
    refine lv_ldiv hx hb d_Fr_times_62 (ct_gzL_ne hg) ?_
    refine lv_topl (fun x6 e9 => ?_)
    have h := ct_nm_at h e9
    clear e9
    refine lv_lstore (lv' := [(8, .long x6), (6, .long x5), (4, .long x4), (2, .long x3), (0, .ref (g.2.1 (23 + f))), (1, .ref (g.2.1 (23 + a1)))]) hx hb d_Fr_times_63 hl (by decide) rfl (fun ls hl => ?_)
    refine lv_aload_n hx hb d_Fr_times_65 rfl (lv_at hl 5 rfl) ?_
    refine gf_Fr_19 (f := a1) ha1 C0 hw hR d_Fr_times_66 ?_
    refine lv_lload hx hb d_Fr_times_69 (lv_at hl 2 rfl) ?_
    obtain ⟨hg, h⟩ := ct_gd_some h
    refine lv_ldiv hx hb d_Fr_times_71 (ct_gzL_ne hg) ?_
    refine lv_topl (fun x7 e9 => ?_)
    have h := ct_nm_at h e9
    clear e9
    refine lv_lstore (lv' := [(10, .long x7), (8, .long x6), (6, .long x5), (4, .long x4), (2, .long x3), (0, .ref (g.2.1 (23 + f))), (1, .ref (g.2.1 (23 + a1)))]) hx hb d_Fr_times_72 hl (by decide) rfl (fun ls hl => ?_)
    refine lv_aload_n hx hb d_Fr_times_74 rfl (lv_at hl 6 rfl) ?_
    refine gf_Fr_9 (f := a1) ha1 C0 hw hR d_Fr_times_75 ?_
    refine lv_lload_n hx hb d_Fr_times_78 rfl (lv_at hl 4 rfl) ?_
    obtain ⟨hg, h⟩ := ct_gd_some h
    refine lv_ldiv hx hb d_Fr_times_79 (ct_gzL_ne hg) ?_
    refine lv_topl (fun x8 e9 => ?_)
    have h := ct_nm_at h e9
    clear e9
    refine lv_lstore (lv' := [(12, .long x8), (10, .long x7), (8, .long x6), (6, .long x5), (4, .long x4), (2, .long x3), (0, .ref (g.2.1 (23 + f))), (1, .ref (g.2.1 (23 + a1)))]) hx hb d_Fr_times_80 hl (by decide) rfl (fun ls hl => ?_)
    refine lv_lload hx hb d_Fr_times_82 (lv_at hl 3 rfl) ?_
    refine lv_lload hx hb d_Fr_times_84 (lv_at hl 1 rfl) ?_
    obtain ⟨x9, ho, h⟩ := ct_ob_some h
    refine ct_callSi C0 hw hl.1 (ct_giS wd_567 wd_568 wd_6 wd_569) (fun sz => s_Fr_fits l g ws sz ho) (nA := 2) (rm := rm_Fr_fits) (by decide +kernel) rfl ⟨rfl, rfl⟩ (by decide) (by decide) (As := [.long x5, .long x7]) (rest := []) rfl (Nat.le_of_ble_eq_true rfl) d_Fr_times_86 (fun ws1 H locs hw hp => ?_)
    rw [hp] at hw
    clear hp
    refine lv_if_eq hx hb (tgt := 102) d_Fr_times_89 (by decide) (fun hc9 => ?_) (fun hc9 => ?_)
    · rw [if_pos hc9] at h
      exact J102 ws H locs ls s2 hw hR (lv_sub hl [6] rfl) h
    · rw [if_neg hc9] at h
      refine lv_lload hx hb d_Fr_times_92 (lv_at hl 2 rfl) ?_
      refine lv_lload hx hb d_Fr_times_94 (lv_at hl 0 rfl) ?_
      obtain ⟨x10, ho, h⟩ := ct_ob_some h
      refine ct_callSi C0 hw hl.1 (ct_giS wd_567 wd_568 wd_6 wd_569) (fun sz => s_Fr_fits l g ws sz ho) (nA := 2) (rm := rm_Fr_fits) (by decide +kernel) rfl ⟨rfl, rfl⟩ (by decide) (by decide) (As := [.long x6, .long x8]) (rest := []) rfl (Nat.le_of_ble_eq_true rfl) d_Fr_times_96 (fun ws1 H locs hw hp => ?_)
      rw [hp] at hw
      clear hp
      refine lv_if_ne hx hb (tgt := 108) d_Fr_times_99 (by decide) (fun hc9 => ?_) (fun hc9 => ?_)
      · rw [if_pos hc9] at h
        refine lv_aload_n hx hb d_Fr_times_108 rfl (lv_at hl 6 rfl) ?_
        refine lv_lload hx hb d_Fr_times_109 (lv_at hl 3 rfl) ?_
        refine lv_lload hx hb d_Fr_times_111 (lv_at hl 1 rfl) ?_
        refine lv_lmul hx hb d_Fr_times_113 ?_
        refine pf_Fr_19 (f := f) hf C0 hw hR d_Fr_times_114 (fun ws H locs hw hR => ?_)
        obtain ⟨s11, es9, h⟩ := ct_nm_ex h
        rw [← es9] at hR
        clear es9
        refine lv_aload_n hx hb d_Fr_times_117 rfl (lv_at hl 6 rfl) ?_
        refine lv_lload hx hb d_Fr_times_118 (lv_at hl 2 rfl) ?_
        refine lv_lload hx hb d_Fr_times_120 (lv_at hl 0 rfl) ?_
        refine lv_lmul hx hb d_Fr_times_122 ?_
        refine pf_Fr_9 (f := f) hf C0 hw hR d_Fr_times_123 (fun ws H locs hw hR => ?_)
        obtain ⟨s12, es9, h⟩ := ct_nm_ex h
        rw [← es9] at hR
        clear es9
        obtain rfl := Option.some.inj h
        exact hret hw hR d_Fr_times_126
      · rw [if_neg (fun q => q hc9)] at h
        exact J102 ws H locs ls s2 hw hR (lv_sub hl [6] rfl) h
  · rw [if_neg hc9] at h
    obtain rfl := Option.some.inj h
    exact hret hw hR d_Fr_times_22

theorem d_Re_expect_0 : decode c_Re_expect 0 = .ok (.aload_n 0, 1) := by decide +kernel
theorem d_Re_expect_1 : decode c_Re_expect 1 = .ok (.getfield 41, 3) := by decide +kernel
theorem d_Re_expect_4 : decode c_Re_expect 4 = .ok (.aload_n 0, 1) := by decide +kernel
theorem d_Re_expect_5 : decode c_Re_expect 5 = .ok (.getfield 21, 3) := by decide +kernel
theorem d_Re_expect_8 : decode c_Re_expect 8 = .ok (.aload_n 0, 1) := by decide +kernel
theorem d_Re_expect_9 : decode c_Re_expect 9 = .ok (.getfield 12, 3) := by decide +kernel
theorem d_Re_expect_12 : decode c_Re_expect 12 = .ok (.getfield 129, 3) := by decide +kernel
theorem d_Re_expect_15 : decode c_Re_expect 15 = .ok (.aload_n 0, 1) := by decide +kernel
theorem d_Re_expect_16 : decode c_Re_expect 16 = .ok (.getfield 12, 3) := by decide +kernel
theorem d_Re_expect_19 : decode c_Re_expect 19 = .ok (.getfield 132, 3) := by decide +kernel
theorem d_Re_expect_22 : decode c_Re_expect 22 = .ok (.iload_n 1, 1) := by decide +kernel
theorem d_Re_expect_23 : decode c_Re_expect 23 = .ok (.invokevirtual 135, 3) := by decide +kernel
theorem d_Re_expect_26 : decode c_Re_expect 26 = .ok (.i2l, 1) := by decide +kernel
theorem d_Re_expect_27 : decode c_Re_expect 27 = .ok (.invokevirtual 105, 3) := by decide +kernel
theorem d_Re_expect_30 : decode c_Re_expect 30 = .ok (.aload_n 0, 1) := by decide +kernel
theorem d_Re_expect_31 : decode c_Re_expect 31 = .ok (.getfield 41, 3) := by decide +kernel
theorem d_Re_expect_34 : decode c_Re_expect 34 = .ok (.aload_n 0, 1) := by decide +kernel
theorem d_Re_expect_35 : decode c_Re_expect 35 = .ok (.getfield 21, 3) := by decide +kernel
theorem d_Re_expect_38 : decode c_Re_expect 38 = .ok (.aload_n 0, 1) := by decide +kernel
theorem d_Re_expect_39 : decode c_Re_expect 39 = .ok (.getfield 12, 3) := by decide +kernel
theorem d_Re_expect_42 : decode c_Re_expect 42 = .ok (.getfield 129, 3) := by decide +kernel
theorem d_Re_expect_45 : decode c_Re_expect 45 = .ok (.invokevirtual 139, 3) := by decide +kernel
theorem d_Re_expect_48 : decode c_Re_expect 48 = .ok (.invokevirtual 85, 3) := by decide +kernel
theorem d_Re_expect_51 : decode c_Re_expect 51 = .ok (.return_, 1) := by decide +kernel
set_option maxHeartbeats 4000000 in
set_option maxRecDepth 100000 in
theorem s_Re_expect (l : Launch) (g : Gx) (ws0 : va_W) (sz : Nat) {s : CS} {a1 : Int32} {res : CS} (hR : cs_Rel g ws0 ws0 s) (h : fn_Re_expect s a1 = some res) : ct_MV l y_Re_expect c_Re_expect 2 none rm_Re_expect g ws0 sz [.ref (g.2.1 4), .int a1]  (fun u => cs_Rel g ws0 u res) := by
  refine ct_startv (by decide +kernel) (Nat.le_of_ble_eq_true rfl) (fun p e sv m args below meth c ls Q A H locs C0 hret hl hw => ?_)
  have hx := C0.1
  have hb := C0.2.1
  have hown := C0.2.2.2.1
  have hts := C0.2.2.2.2.1
  have hl : lv_has ls 2 [(0, .ref (g.2.1 4)), (1, .int a1)] := hl
  unfold fn_Re_expect at h
  obtain ⟨ws, hwe⟩ : ∃ z : va_W, z = ws0 := ⟨_, rfl⟩
  rw [← hwe] at hw
  have hR : cs_Rel g ws0 ws s := by rw [hwe]; exact hR
  clear hwe
  refine lv_aload_n hx hb d_Re_expect_0 rfl (lv_at hl 0 rfl) ?_
  refine gf_Re_41 C0 hw hR d_Re_expect_1 ?_
  refine lv_aload_n hx hb d_Re_expect_4 rfl (lv_at hl 0 rfl) ?_
  refine gf_Re_21 C0 hw hR d_Re_expect_5 ?_
  refine lv_aload_n hx hb d_Re_expect_8 rfl (lv_at hl 0 rfl) ?_
  refine gf_Re_12 C0 hw hR d_Re_expect_9 ?_
  refine gf_Re_129 C0 hw hR d_Re_expect_12 ?_
  refine lv_aload_n hx hb d_Re_expect_15 rfl (lv_at hl 0 rfl) ?_
  refine gf_Re_12 C0 hw hR d_Re_expect_16 ?_
  refine gf_Re_132 C0 hw hR d_Re_expect_19 ?_
  refine lv_iload_n hx hb d_Re_expect_22 rfl (lv_at hl 1 rfl) ?_
  obtain ⟨x1, ho, h⟩ := ct_ob_some h
  refine ct_callVi C0 hw hl.1 (q0 := 3) (hR.1 3 (by decide)) rfl (ct_giV wd_551 wd_552 wd_553 wd_5 wd_554) (fun sz => s_Te_sumPremiums l g ws sz hR.rf ho) (nA := 3) (rm := rm_Te_sumPremiums) (by decide +kernel) rfl ⟨rfl, rfl⟩ (by decide) (by decide) (As := [.int (cs_I s 1), .int (cs_I s 2), .int a1]) (rest := [.ref (g.2.1 33)]) rfl (Nat.le_of_ble_eq_true rfl) d_Re_expect_23 (fun ws1 H locs hw hp => ?_)
  rw [hp] at hw
  clear hp
  refine lv_i2l hx hb d_Re_expect_26 rfl ?_
  obtain ⟨s2, ho, h⟩ := ct_ob_some h
  refine ct_callVv C0 hw hl.1 (hR.F (f := 10) (by decide)) rfl (ct_giV wd_555 wd_556 wd_557 wd_6 wd_558) (fun sz => s_Fr_becomeWhole l g ws sz hR.rf (by decide) ho) (nA := 1) (rm := rm_Fr_becomeWhole) (by decide +kernel) rfl ⟨rfl, rfl⟩ (by decide) (by decide) (As := [.long x1.toInt64]) (rest := []) rfl (Nat.le_of_ble_eq_true rfl) d_Re_expect_27 (fun ws1 H locs hw hp => ?_)
  have hR := hR.trans hp
  clear hp
  generalize ws1 = ws at hw hR
  refine lv_aload_n hx hb d_Re_expect_30 rfl (lv_at hl 0 rfl) ?_
  refine gf_Re_41 C0 hw hR d_Re_expect_31 ?_
  refine lv_aload_n hx hb d_Re_expect_34 rfl (lv_at hl 0 rfl) ?_
  refine gf_Re_21 C0 hw hR d_Re_expect_35 ?_
  refine lv_aload_n hx hb d_Re_expect_38 rfl (lv_at hl 0 rfl) ?_
  refine gf_Re_12 C0 hw hR d_Re_expect_39 ?_
  refine gf_Re_129 C0 hw hR d_Re_expect_42 ?_
  obtain ⟨x3, ho, h⟩ := ct_ob_some h
  refine ct_callVr C0 hw hl.1 (q0 := 3) (hR.1 3 (by decide)) rfl (ct_giV wd_559 wd_402 wd_403 wd_5 wd_404) (fun sz => s_Te_ratioOf l g ws sz hR.rf ho) (nA := 1) (rm := rm_Te_ratioOf) (by decide +kernel) rfl ⟨rfl, rfl⟩ (by decide) (by decide) (As := [.int (cs_I s2 1)]) (rest := [.ref (g.2.1 33)]) rfl (Nat.le_of_ble_eq_true rfl) d_Re_expect_45 (fun ws1 H locs hw hp => ?_)
  rw [hp] at hw
  clear hp
  have hx3 : x3 < 12 := lt_Te_ratioOf ho
  obtain ⟨s4, ho, h⟩ := ct_ob_some h
  refine ct_callVv C0 hw hl.1 (hR.F (f := 10) (by decide)) rfl (ct_giV wd_560 wd_561 wd_562 wd_6 wd_563) (fun sz => s_Fr_times l g ws sz hR.rf (by decide) hx3 ho) (nA := 1) (rm := rm_Fr_times) (by decide +kernel) rfl ⟨rfl, rfl⟩ (by decide) (by decide) (As := [.ref (g.2.1 (23 + x3))]) (rest := []) rfl (Nat.le_of_ble_eq_true rfl) d_Re_expect_48 (fun ws1 H locs hw hp => ?_)
  have hR := hR.trans hp
  clear hp
  generalize ws1 = ws at hw hR
  obtain rfl := Option.some.inj h
  exact hret hw hR d_Re_expect_51

theorem d_Re_chain_0 : decode c_Re_chain 0 = .ok (.aload_n 0, 1) := by decide +kernel
theorem d_Re_chain_1 : decode c_Re_chain 1 = .ok (.getfield 34, 3) := by decide +kernel
theorem d_Re_chain_4 : decode c_Re_chain 4 = .ok (.lconst 1, 1) := by decide +kernel
theorem d_Re_chain_5 : decode c_Re_chain 5 = .ok (.invokevirtual 105, 3) := by decide +kernel
theorem d_Re_chain_8 : decode c_Re_chain 8 = .ok (.iload_n 1, 1) := by decide +kernel
theorem d_Re_chain_9 : decode c_Re_chain 9 = .ok (.istore_n 3, 1) := by decide +kernel
theorem d_Re_chain_10 : decode c_Re_chain 10 = .ok (.iload_n 3, 1) := by decide +kernel
theorem d_Re_chain_11 : decode c_Re_chain 11 = .ok (.iload_n 2, 1) := by decide +kernel
theorem d_Re_chain_12 : decode c_Re_chain 12 = .ok (.if_icmp .gt 22, 3) := by decide +kernel
theorem d_Re_chain_15 : decode c_Re_chain 15 = .ok (.aload_n 0, 1) := by decide +kernel
theorem d_Re_chain_16 : decode c_Re_chain 16 = .ok (.getfield 34, 3) := by decide +kernel
theorem d_Re_chain_19 : decode c_Re_chain 19 = .ok (.aload_n 0, 1) := by decide +kernel
theorem d_Re_chain_20 : decode c_Re_chain 20 = .ok (.getfield 27, 3) := by decide +kernel
theorem d_Re_chain_23 : decode c_Re_chain 23 = .ok (.iload_n 3, 1) := by decide +kernel
theorem d_Re_chain_24 : decode c_Re_chain 24 = .ok (.aaload, 1) := by decide +kernel
theorem d_Re_chain_25 : decode c_Re_chain 25 = .ok (.invokevirtual 85, 3) := by decide +kernel
theorem d_Re_chain_28 : decode c_Re_chain 28 = .ok (.iinc 3 1, 3) := by decide +kernel
theorem d_Re_chain_31 : decode c_Re_chain 31 = .ok (.goto (-21), 3) := by decide +kernel
theorem d_Re_chain_34 : decode c_Re_chain 34 = .ok (.return_, 1) := by decide +kernel
set_option maxHeartbeats 4000000 in
set_option maxRecDepth 100000 in
theorem s_Re_chain (l : Launch) (g : Gx) (ws0 : va_W) (sz : Nat) {s : CS} {a1 : Int32} {a2 : Int32} {res : CS} (hR : cs_Rel g ws0 ws0 s) (h : fn_Re_chain s a1 a2 = some res) : ct_MV l y_Re_chain c_Re_chain 4 none rm_Re_chain g ws0 sz [.ref (g.2.1 4), .int a1, .int a2]  (fun u => cs_Rel g ws0 u res) := by
  refine ct_startv (by decide +kernel) (Nat.le_of_ble_eq_true rfl) (fun p e sv m args below meth c ls Q A H locs C0 hret hl hw => ?_)
  have hx := C0.1
  have hb := C0.2.1
  have hown := C0.2.2.2.1
  have hts := C0.2.2.2.2.1
  have hl : lv_has ls 4 [(0, .ref (g.2.1 4)), (1, .int a1), (2, .int a2)] := hl
  have L10 : ∀ (n10 : Nat) (ws : va_W) (H : Heap) (locs : List Loc) (ls : Array Slot) (s : CS) (v3 : Int32), ct_Wd g A sv ws H locs → cs_Rel g ws0 ws s → lv_has ls 4 [(0, .ref (g.2.1 4)), (2, .int a2), (3, .int v3)] → bk_Re_chain_10 a1 a2 n10 s v3 = some res → W p l e rm_Re_chain sv m args below meth c H locs 0 0 Q (F0 m 10 ls []) := by
    intro n10
    induction n10 with
    | zero =>
      intro ws H locs ls s v3 hw hR hl h
      exact absurd h (by simp [bk_Re_chain_10])
    | succ n10 ih10 =>
      intro ws H locs ls s v3 hw hR hl h
      have h : bk_Re_chain_10_o a1 a2 (bk_Re_chain_10 a1 a2 n10) s v3 = some res := h
      unfold bk_Re_chain_10_o at h
      refine lv_iload_n hx hb d_Re_chain_10 rfl (lv_at hl 2 rfl) ?_
      refine lv_iload_n hx hb d_Re_chain_11 rfl (lv_at hl 1 rfl) ?_
      refine lv_icmp_gt hx hb (tgt := 34) d_Re_chain_12 (by decide) (fun hc9 => ?_) (fun hc9 => ?_)
      · rw [if_pos hc9] at h
        obtain rfl := Option.some.inj h
        exact hret hw hR d_Re_chain_34
      · rw [if_neg hc9] at h
        refine lv_aload_n hx hb d_Re_chain_15 rfl (lv_at hl 0 rfl) ?_
        refine gf_Re_34 C0 hw hR d_Re_chain_16 ?_
        refine lv_aload_n hx hb d_Re_chain_19 rfl (lv_at hl 0 rfl) ?_
        refine gf_Re_27 C0 hw hR d_Re_chain_20 ?_
        refine lv_iload_n hx hb d_Re_chain_23 rfl (lv_at hl 2 rfl) ?_
        obtain ⟨hg24, h⟩ := ct_gd_some h
        refine ct_ldlk C0 hw hR (ct_inR_vp hg24) d_Re_chain_24 ?_
        obtain ⟨s1, ho, h⟩ := ct_ob_some h
        refine ct_callVv C0 hw hl.1 (hR.F (f := 8) (by decide)) rfl (ct_giV wd_560 wd_561 wd_562 wd_6 wd_563) (fun sz => s_Fr_times l g ws sz hR.rf (by decide) (by have := ct_inR_lt hg24; omega) ho) (nA := 1) (rm := rm_Fr_times) (by decide +kernel) rfl ⟨rfl, rfl⟩ (by decide) (by decide) (As := [.ref (g.2.1 (23 + (3 + v3.toNatClampNeg)))]) (rest := []) rfl (Nat.le_of_ble_eq_true rfl) d_Re_chain_25 (fun ws1 H locs hw hp => ?_)
        have hR := hR.trans hp
        clear hp
        generalize ws1 = ws at hw hR
        refine lv_iinc (v := v3 + 1) (k := 2) (lv' := [(3, .int (v3 + 1)), (0, .ref (g.2.1 4)), (2, .int a2)]) hx hb d_Re_chain_28 hl rfl rfl (by decide) rfl (fun ls hl => ?_)
        refine lv_goto hx hb (tgt := 10) d_Re_chain_31 (by decide) ?_
        exact ih10 ws H locs ls s1 (v3 + 1) hw hR (lv_sub hl [1, 2, 0] rfl) h
  unfold fn_Re_chain at h
  obtain ⟨ws, hwe⟩ : ∃ z : va_W, z = ws0 := ⟨_, rfl⟩
  rw [← hwe] at hw
  have hR : cs_Rel g ws0 ws s := by rw [hwe]; exact hR
  clear hwe
  refine lv_aload_n hx hb d_Re_chain_0 rfl (lv_at hl 0 rfl) ?_
  refine gf_Re_34 C0 hw hR d_Re_chain_1 ?_
  refine lv_lconst (v := 1) hx hb d_Re_chain_4 (by decide) ?_
  obtain ⟨s2, ho, h⟩ := ct_ob_some h
  refine ct_callVv C0 hw hl.1 (hR.F (f := 8) (by decide)) rfl (ct_giV wd_555 wd_556 wd_557 wd_6 wd_558) (fun sz => s_Fr_becomeWhole l g ws sz hR.rf (by decide) ho) (nA := 1) (rm := rm_Fr_becomeWhole) (by decide +kernel) rfl ⟨rfl, rfl⟩ (by decide) (by decide) (As := [.long 1]) (rest := []) rfl (Nat.le_of_ble_eq_true rfl) d_Re_chain_5 (fun ws1 H locs hw hp => ?_)
  have hR := hR.trans hp
  clear hp
  generalize ws1 = ws at hw hR
  refine lv_iload_n hx hb d_Re_chain_8 rfl (lv_at hl 1 rfl) ?_
  refine lv_istore_n (lv' := [(3, .int a1), (0, .ref (g.2.1 4)), (1, .int a1), (2, .int a2)]) hx hb d_Re_chain_9 rfl hl (by decide) rfl (fun ls hl => ?_)
  exact L10 200 ws H locs ls s2 a1 hw hR (lv_sub hl [1, 3, 0] rfl) h

theorem d_Fr_invert_0 : decode c_Fr_invert 0 = .ok (.aload_n 0, 1) := by decide +kernel
theorem d_Fr_invert_1 : decode c_Fr_invert 1 = .ok (.getfield 15, 3) := by decide +kernel
theorem d_Fr_invert_4 : decode c_Fr_invert 4 = .ok (.ifCond .eq 4, 3) := by decide +kernel
theorem d_Fr_invert_7 : decode c_Fr_invert 7 = .ok (.return_, 1) := by decide +kernel
theorem d_Fr_invert_8 : decode c_Fr_invert 8 = .ok (.aload_n 0, 1) := by decide +kernel
theorem d_Fr_invert_9 : decode c_Fr_invert 9 = .ok (.getfield 19, 3) := by decide +kernel
theorem d_Fr_invert_12 : decode c_Fr_invert 12 = .ok (.lconst 0, 1) := by decide +kernel
theorem d_Fr_invert_13 : decode c_Fr_invert 13 = .ok (.lcmp, 1) := by decide +kernel
theorem d_Fr_invert_14 : decode c_Fr_invert 14 = .ok (.ifCond .ne 9, 3) := by decide +kernel
theorem d_Fr_invert_17 : decode c_Fr_invert 17 = .ok (.aload_n 0, 1) := by decide +kernel
theorem d_Fr_invert_18 : decode c_Fr_invert 18 = .ok (.iconst 2, 1) := by decide +kernel
theorem d_Fr_invert_19 : decode c_Fr_invert 19 = .ok (.putfield 15, 3) := by decide +kernel
theorem d_Fr_invert_22 : decode c_Fr_invert 22 = .ok (.return_, 1) := by decide +kernel
theorem d_Fr_invert_23 : decode c_Fr_invert 23 = .ok (.aload_n 0, 1) := by decide +kernel
theorem d_Fr_invert_24 : decode c_Fr_invert 24 = .ok (.getfield 19, 3) := by decide +kernel
theorem d_Fr_invert_27 : decode c_Fr_invert 27 = .ok (.lconst 0, 1) := by decide +kernel
theorem d_Fr_invert_28 : decode c_Fr_invert 28 = .ok (.lcmp, 1) := by decide +kernel
theorem d_Fr_invert_29 : decode c_Fr_invert 29 = .ok (.ifCond .ge 11, 3) := by decide +kernel
theorem d_Fr_invert_32 : decode c_Fr_invert 32 = .ok (.aload_n 0, 1) := by decide +kernel
theorem d_Fr_invert_33 : decode c_Fr_invert 33 = .ok (.getfield 9, 3) := by decide +kernel
theorem d_Fr_invert_36 : decode c_Fr_invert 36 = .ok (.lneg, 1) := by decide +kernel
theorem d_Fr_invert_37 : decode c_Fr_invert 37 = .ok (.goto 7, 3) := by decide +kernel
theorem d_Fr_invert_40 : decode c_Fr_invert 40 = .ok (.aload_n 0, 1) := by decide +kernel
theorem d_Fr_invert_41 : decode c_Fr_invert 41 = .ok (.getfield 9, 3) := by decide +kernel
theorem d_Fr_invert_44 : decode c_Fr_invert 44 = .ok (.lstore_n 1, 1) := by decide +kernel
theorem d_Fr_invert_45 : decode c_Fr_invert 45 = .ok (.aload_n 0, 1) := by decide +kernel
theorem d_Fr_invert_46 : decode c_Fr_invert 46 = .ok (.aload_n 0, 1) := by decide +kernel
theorem d_Fr_invert_47 : decode c_Fr_invert 47 = .ok (.getfield 19, 3) := by decide +kernel
theorem d_Fr_invert_50 : decode c_Fr_invert 50 = .ok (.invokestatic 40, 3) := by decide +kernel
theorem d_Fr_invert_53 : decode c_Fr_invert 53 = .ok (.putfield 9, 3) := by decide +kernel
theorem d_Fr_invert_56 : decode c_Fr_invert 56 = .ok (.aload_n 0, 1) := by decide +kernel
theorem d_Fr_invert_57 : decode c_Fr_invert 57 = .ok (.lload_n 1, 1) := by decide +kernel
theorem d_Fr_invert_58 : decode c_Fr_invert 58 = .ok (.putfield 19, 3) := by decide +kernel
theorem d_Fr_invert_61 : decode c_Fr_invert 61 = .ok (.return_, 1) := by decide +kernel
set_option maxHeartbeats 4000000 in
set_option maxRecDepth 100000 in
theorem s_Fr_invert (l : Launch) (g : Gx) (ws0 : va_W) (sz : Nat) {s : CS} {f : Nat} {res : CS} (hR : cs_Rel g ws0 ws0 s) (hf : f < 12) (h : fn_Fr_invert s f = some res) : ct_MV l y_Fr_invert c_Fr_invert 3 none rm_Fr_invert g ws0 sz [.ref (g.2.1 (23 + f))]  (fun u => cs_Rel g ws0 u res) := by
  refine ct_startv (by decide +kernel) (Nat.le_of_ble_eq_true rfl) (fun p e sv m args below meth c ls Q A H locs C0 hret hl hw => ?_)
  have hx := C0.1
  have hb := C0.2.1
  have hown := C0.2.2.2.1
  have hts := C0.2.2.2.2.1
  have hl : lv_has ls 3 [(0, .ref (g.2.1 (23 + f)))] := hl
  have J44 : ∀ (ws : va_W) (H : Heap) (locs : List Loc) (ls : Array Slot) (s : CS) (t0 : Int64), ct_Wd g A sv ws H locs → cs_Rel g ws0 ws s → lv_has ls 3 [(0, .ref (g.2.1 (23 + f)))] → bk_Fr_invert_44 f s t0 = some res → W p l e rm_Fr_invert sv m args below meth c H locs 0 0 Q (F0 m 44 ls [.long t0]) := by
    intro ws H locs ls s t0 hw hR hl h
    unfold bk_Fr_invert_44 at h
    refine lv_lstore_n (lv' := [(1, .long t0), (0, .ref (g.2.1 (23 + f)))]) hx hb d_Fr_invert_44 rfl hl (by decide) rfl (fun ls hl => ?_)
    refine lv_aload_n hx hb d_Fr_invert_45 rfl (lv_at hl 1 rfl) ?_
    refine lv_aload_n hx hb d_Fr_invert_46 rfl (lv_at hl 1 rfl) ?_
    refine gf_Fr_19 (f := f) hf C0 hw hR d_Fr_invert_47 ?_
    refine ma_Fr_40 C0 (by rw [C0.2.2.1]; exact hl.1.symm) (by decide) (Nat.le_of_ble_eq_true rfl) d_Fr_invert_50 ?_
    refine pf_Fr_9 (f := f) hf C0 hw hR d_Fr_invert_53 (fun ws H locs hw hR => ?_)
    obtain ⟨s1, es9, h⟩ := ct_nm_ex h
    rw [← es9] at hR
    clear es9
    refine lv_aload_n hx hb d_Fr_invert_56 rfl (lv_at hl 1 rfl) ?_
    refine lv_lload_n hx hb d_Fr_invert_57 rfl (lv_at hl 0 rfl) ?_
    refine pf_Fr_19 (f := f) hf C0 hw hR d_Fr_invert_58 (fun ws H locs hw hR => ?_)
    obtain ⟨s2, es9, h⟩ := ct_nm_ex h
    rw [← es9] at hR
    clear es9
    obtain rfl := Option.some.inj h
    exact hret hw hR d_Fr_invert_61
  unfold fn_Fr_invert at h
  obtain ⟨ws, hwe⟩ : ∃ z : va_W, z = ws0 := ⟨_, rfl⟩
  rw [← hwe] at hw
  have hR : cs_Rel g ws0 ws s := by rw [hwe]; exact hR
  clear hwe
  refine lv_aload_n hx hb d_Fr_invert_0 rfl (lv_at hl 0 rfl) ?_
  refine gf_Fr_15 (f := f) hf C0 hw hR d_Fr_invert_1 ?_
  refine lv_if_eq hx hb (tgt := 8) d_Fr_invert_4 (by decide) (fun hc9 => ?_) (fun hc9 => ?_)
  · rw [if_pos hc9] at h
    refine lv_aload_n hx hb d_Fr_invert_8 rfl (lv_at hl 0 rfl) ?_
    refine gf_Fr_19 (f := f) hf C0 hw hR d_Fr_invert_9 ?_
    refine lv_lconst (v := 0) hx hb d_Fr_invert_12 (by decide) ?_
    refine W.lcmp hx hb d_Fr_invert_13 ?_
    refine lv_if_ne hx hb (tgt := 23) d_Fr_invert_14 (by decide) (fun hc9 => ?_) (fun hc9 => ?_)
    · rw [if_pos hc9] at h
      refine lv_aload_n hx hb d_Fr_invert_23 rfl (lv_at hl 0 rfl) ?_
      refine gf_Fr_19 (f := f) hf C0 hw hR d_Fr_invert_24 ?_
      refine lv_lconst (v := 0) hx hb d_Fr_invert_27 (by decide) ?_
      refine W.lcmp hx hb d_Fr_invert_28 ?_
      refine lv_if_ge hx hb (tgt := 40) d_Fr_invert_29 (by decide) (fun hc9 => ?_) (fun hc9 => ?_)
      · rw [if_pos hc9] at h
        refine lv_aload_n hx hb d_Fr_invert_40 rfl (lv_at hl 0 rfl) ?_
        refine gf_Fr_9 (f := f) hf C0 hw hR d_Fr_invert_41 ?_
        exact J44 ws H locs ls s ((cs_F s f).2.1) hw hR (lv_sub hl [0] rfl) h
      · rw [if_neg hc9] at h
        refine lv_aload_n hx hb d_Fr_invert_32 rfl (lv_at hl 0 rfl) ?_
        refine gf_Fr_9 (f := f) hf C0 hw hR d_Fr_invert_33 ?_
        refine lv_lneg hx hb d_Fr_invert_36 ?_
        refine lv_goto hx hb (tgt := 44) d_Fr_invert_37 (by decide) ?_
        exact J44 ws H locs ls s (-((cs_F s f).2.1)) hw hR (lv_sub hl [0] rfl) h
    · rw [if_neg (fun q => q hc9)] at h
      refine lv_aload_n hx hb d_Fr_invert_17 rfl (lv_at hl 0 rfl) ?_
      refine lv_iconst (v := 2) hx hb d_Fr_invert_18 (by decide) ?_
      refine pf_Fr_15 (f := f) hf C0 hw hR d_Fr_invert_19 (fun ws H locs hw hR => ?_)
      obtain ⟨s3, es9, h⟩ := ct_nm_ex h
      rw [← es9] at hR
      clear es9
      obtain rfl := Option.some.inj h
      exact hret hw hR d_Fr_invert_22
  · rw [if_neg hc9] at h
    obtain rfl := Option.some.inj h
    exact hret hw hR d_Fr_invert_7

theorem d_Fr_negate_0 : decode c_Fr_negate 0 = .ok (.aload_n 0, 1) := by decide +kernel
theorem d_Fr_negate_1 : decode c_Fr_negate 1 = .ok (.aload_n 0, 1) := by decide +kernel
theorem d_Fr_negate_2 : decode c_Fr_negate 2 = .ok (.getfield 19, 3) := by decide +kernel
theorem d_Fr_negate_5 : decode c_Fr_negate 5 = .ok (.lneg, 1) := by decide +kernel
theorem d_Fr_negate_6 : decode c_Fr_negate 6 = .ok (.putfield 19, 3) := by decide +kernel
theorem d_Fr_negate_9 : decode c_Fr_negate 9 = .ok (.return_, 1) := by decide +kernel
set_option maxHeartbeats 4000000 in
set_option maxRecDepth 100000 in
theorem s_Fr_negate (l : Launch) (g : Gx) (ws0 : va_W) (sz : Nat) {s : CS} {f : Nat} {res : CS} (hR : cs_Rel g ws0 ws0 s) (hf : f < 12) (h : fn_Fr_negate s f = some res) : ct_MV l y_Fr_negate c_Fr_negate 1 none rm_Fr_negate g ws0 sz [.ref (g.2.1 (23 + f))]  (fun u => cs_Rel g ws0 u res) := by
  refine ct_startv (by decide +kernel) (Nat.le_of_ble_eq_true rfl) (fun p e sv m args below meth c ls Q A H locs C0 hret hl hw => ?_)
  have hx := C0.1
  have hb := C0.2.1
  have hown := C0.2.2.2.1
  have hts := C0.2.2.2.2.1
  have hl : lv_has ls 1 [(0, .ref (g.2.1 (23 + f)))] := hl
  unfold fn_Fr_negate at h
  obtain ⟨ws, hwe⟩ : ∃ z : va_W, z = ws0 := ⟨_, rfl⟩
  rw [← hwe] at hw
  have hR : cs_Rel g ws0 ws s := by rw [hwe]; exact hR
  clear hwe
  refine lv_aload_n hx hb d_Fr_negate_0 rfl (lv_at hl 0 rfl) ?_
  refine lv_aload_n hx hb d_Fr_negate_1 rfl (lv_at hl 0 rfl) ?_
  refine gf_Fr_19 (f := f) hf C0 hw hR d_Fr_negate_2 ?_
  refine lv_lneg hx hb d_Fr_negate_5 ?_
  refine pf_Fr_19 (f := f) hf C0 hw hR d_Fr_negate_6 (fun ws H locs hw hR => ?_)
  obtain ⟨s1, es9, h⟩ := ct_nm_ex h
  rw [← es9] at hR
  clear es9
  obtain rfl := Option.some.inj h
  exact hret hw hR d_Fr_negate_9

theorem d_Re_asWhole_0 : decode c_Re_asWhole 0 = .ok (.aload_n 0, 1) := by decide +kernel
theorem d_Re_asWhole_1 : decode c_Re_asWhole 1 = .ok (.getfield 38, 3) := by decide +kernel
theorem d_Re_asWhole_4 : decode c_Re_asWhole 4 = .ok (.lload_n 1, 1) := by decide +kernel
theorem d_Re_asWhole_5 : decode c_Re_asWhole 5 = .ok (.invokevirtual 105, 3) := by decide +kernel
theorem d_Re_asWhole_8 : decode c_Re_asWhole 8 = .ok (.aload_n 0, 1) := by decide +kernel
theorem d_Re_asWhole_9 : decode c_Re_asWhole 9 = .ok (.getfield 38, 3) := by decide +kernel
theorem d_Re_asWhole_12 : decode c_Re_asWhole 12 = .ok (.areturn, 1) := by decide +kernel
set_option maxHeartbeats 4000000 in
set_option maxRecDepth 100000 in
theorem s_Re_asWhole (l : Launch) (g : Gx) (ws0 : va_W) (sz : Nat) {s : CS} {a1 : Int64} {res : (Nat × CS)} (hR : cs_Rel g ws0 ws0 s) (h : fn_Re_asWhole s a1 = some res) : ct_MR l y_Re_asWhole c_Re_asWhole 3 (some (.object "ClaimTriangle$Fraction")) rm_Re_asWhole g ws0 sz [.ref (g.2.1 4), .long a1] (g.2.1 (23 + res.1)) (fun u => cs_Rel g ws0 u res.2) := by
  refine ct_starta (by decide +kernel) (Nat.le_of_ble_eq_true rfl) (fun p e sv m args below meth c ls Q A H locs C0 hret hl hw => ?_)
  have hx := C0.1
  have hb := C0.2.1
  have hown := C0.2.2.2.1
  have hts := C0.2.2.2.2.1
  have hl : lv_has ls 3 [(0, .ref (g.2.1 4)), (1, .long a1)] := hl
  unfold fn_Re_asWhole at h
  obtain ⟨ws, hwe⟩ : ∃ z : va_W, z = ws0 := ⟨_, rfl⟩
  rw [← hwe] at hw
  have hR : cs_Rel g ws0 ws s := by rw [hwe]; exact hR
  clear hwe
  refine lv_aload_n hx hb d_Re_asWhole_0 rfl (lv_at hl 0 rfl) ?_
  refine gf_Re_38 C0 hw hR d_Re_asWhole_1 ?_
  refine lv_lload_n hx hb d_Re_asWhole_4 rfl (lv_at hl 1 rfl) ?_
  obtain ⟨s1, ho, h⟩ := ct_ob_some h
  refine ct_callVv C0 hw hl.1 (hR.F (f := 9) (by decide)) rfl (ct_giV wd_555 wd_556 wd_557 wd_6 wd_558) (fun sz => s_Fr_becomeWhole l g ws sz hR.rf (by decide) ho) (nA := 1) (rm := rm_Fr_becomeWhole) (by decide +kernel) rfl ⟨rfl, rfl⟩ (by decide) (by decide) (As := [.long a1]) (rest := []) rfl (Nat.le_of_ble_eq_true rfl) d_Re_asWhole_5 (fun ws1 H locs hw hp => ?_)
  have hR := hR.trans hp
  clear hp
  generalize ws1 = ws at hw hR
  refine lv_aload_n hx hb d_Re_asWhole_8 rfl (lv_at hl 0 rfl) ?_
  refine gf_Re_38 C0 hw hR d_Re_asWhole_9 ?_
  obtain rfl := Option.some.inj h
  exact hret hw hR d_Re_asWhole_12

theorem d_Fr_plus_0 : decode c_Fr_plus 0 = .ok (.aload_n 0, 1) := by decide +kernel
theorem d_Fr_plus_1 : decode c_Fr_plus 1 = .ok (.aload_n 0, 1) := by decide +kernel
theorem d_Fr_plus_2 : decode c_Fr_plus 2 = .ok (.getfield 15, 3) := by decide +kernel
theorem d_Fr_plus_5 : decode c_Fr_plus 5 = .ok (.aload_n 1, 1) := by decide +kernel
theorem d_Fr_plus_6 : decode c_Fr_plus 6 = .ok (.getfield 15, 3) := by decide +kernel
theorem d_Fr_plus_9 : decode c_Fr_plus 9 = .ok (.invokestatic 26, 3) := by decide +kernel
theorem d_Fr_plus_12 : decode c_Fr_plus 12 = .ok (.putfield 15, 3) := by decide +kernel
theorem d_Fr_plus_15 : decode c_Fr_plus 15 = .ok (.aload_n 0, 1) := by decide +kernel
theorem d_Fr_plus_16 : decode c_Fr_plus 16 = .ok (.getfield 15, 3) := by decide +kernel
theorem d_Fr_plus_19 : decode c_Fr_plus 19 = .ok (.ifCond .eq 4, 3) := by decide +kernel
theorem d_Fr_plus_22 : decode c_Fr_plus 22 = .ok (.return_, 1) := by decide +kernel
theorem d_Fr_plus_23 : decode c_Fr_plus 23 = .ok (.aload_n 0, 1) := by decide +kernel
theorem d_Fr_plus_24 : decode c_Fr_plus 24 = .ok (.getfield 9, 3) := by decide +kernel
theorem d_Fr_plus_27 : decode c_Fr_plus 27 = .ok (.aload_n 1, 1) := by decide +kernel
theorem d_Fr_plus_28 : decode c_Fr_plus 28 = .ok (.getfield 9, 3) := by decide +kernel
theorem d_Fr_plus_31 : decode c_Fr_plus 31 = .ok (.invokestatic 22, 3) := by decide +kernel
theorem d_Fr_plus_34 : decode c_Fr_plus 34 = .ok (.lstore_n 2, 1) := by decide +kernel
theorem d_Fr_plus_35 : decode c_Fr_plus 35 = .ok (.aload_n 1, 1) := by decide +kernel
theorem d_Fr_plus_36 : decode c_Fr_plus 36 = .ok (.getfield 9, 3) := by decide +kernel
theorem d_Fr_plus_39 : decode c_Fr_plus 39 = .ok (.lload_n 2, 1) := by decide +kernel
theorem d_Fr_plus_40 : decode c_Fr_plus 40 = .ok (.ldiv, 1) := by decide +kernel
theorem d_Fr_plus_41 : decode c_Fr_plus 41 = .ok (.lstore 4, 2) := by decide +kernel
theorem d_Fr_plus_43 : decode c_Fr_plus 43 = .ok (.aload_n 0, 1) := by decide +kernel
theorem d_Fr_plus_44 : decode c_Fr_plus 44 = .ok (.getfield 9, 3) := by decide +kernel
theorem d_Fr_plus_47 : decode c_Fr_plus 47 = .ok (.lload_n 2, 1) := by decide +kernel
theorem d_Fr_plus_48 : decode c_Fr_plus 48 = .ok (.ldiv, 1) := by decide +kernel
theorem d_Fr_plus_49 : decode c_Fr_plus 49 = .ok (.lstore 6, 2) := by decide +kernel
theorem d_Fr_plus_51 : decode c_Fr_plus 51 = .ok (.aload_n 0, 1) := by decide +kernel
theorem d_Fr_plus_52 : decode c_Fr_plus 52 = .ok (.getfield 9, 3) := by decide +kernel
theorem d_Fr_plus_55 : decode c_Fr_plus 55 = .ok (.lload 4, 2) := by decide +kernel
theorem d_Fr_plus_57 : decode c_Fr_plus 57 = .ok (.invokestatic 32, 3) := by decide +kernel
theorem d_Fr_plus_60 : decode c_Fr_plus 60 = .ok (.ifCond .eq 27, 3) := by decide +kernel
theorem d_Fr_plus_63 : decode c_Fr_plus 63 = .ok (.aload_n 0, 1) := by decide +kernel
theorem d_Fr_plus_64 : decode c_Fr_plus 64 = .ok (.getfield 19, 3) := by decide +kernel
theorem d_Fr_plus_67 : decode c_Fr_plus 67 = .ok (.lload 4, 2) := by decide +kernel
theorem d_Fr_plus_69 : decode c_Fr_plus 69 = .ok (.invokestatic 32, 3) := by decide +kernel
theorem d_Fr_plus_72 : decode c_Fr_plus 72 = .ok (.ifCond .eq 15, 3) := by decide +kernel
theorem d_Fr_plus_75 : decode c_Fr_plus 75 = .ok (.aload_n 1, 1) := by decide +kernel
theorem d_Fr_plus_76 : decode c_Fr_plus 76 = .ok (.getfield 19, 3) := by decide +kernel
theorem d_Fr_plus_79 : decode c_Fr_plus 79 = .ok (.lload 6, 2) := by decide +kernel
theorem d_Fr_plus_81 : decode c_Fr_plus 81 = .ok (.invokestatic 32, 3) := by decide +kernel
theorem d_Fr_plus_84 : decode c_Fr_plus 84 = .ok (.ifCond .ne 9, 3) := by decide +kernel
theorem d_Fr_plus_87 : decode c_Fr_plus 87 = .ok (.aload_n 0, 1) := by decide +kernel
theorem d_Fr_plus_88 : decode c_Fr_plus 88 = .ok (.iconst 1, 1) := by decide +kernel
theorem d_Fr_plus_89 : decode c_Fr_plus 89 = .ok (.putfield 15, 3) := by decide +kernel
theorem d_Fr_plus_92 : decode c_Fr_plus 92 = .ok (.return_, 1) := by decide +kernel
theorem d_Fr_plus_93 : decode c_Fr_plus 93 = .ok (.aload_n 0, 1) := by decide +kernel
theorem d_Fr_plus_94 : decode c_Fr_plus 94 = .ok (.getfield 19, 3) := by decide +kernel
theorem d_Fr_plus_97 : decode c_Fr_plus 97 = .ok (.lload 4, 2) := by decide +kernel
theorem d_Fr_plus_99 : decode c_Fr_plus 99 = .ok (.lmul, 1) := by decide +kernel
theorem d_Fr_plus_100 : decode c_Fr_plus 100 = .ok (.lstore 8, 2) := by decide +kernel
theorem d_Fr_plus_102 : decode c_Fr_plus 102 = .ok (.aload_n 1, 1) := by decide +kernel
theorem d_Fr_plus_103 : decode c_Fr_plus 103 = .ok (.getfield 19, 3) := by decide +kernel
theorem d_Fr_plus_106 : decode c_Fr_plus 106 = .ok (.lload 6, 2) := by decide +kernel
theorem d_Fr_plus_108 : decode c_Fr_plus 108 = .ok (.lmul, 1) := by decide +kernel
theorem d_Fr_plus_109 : decode c_Fr_plus 109 = .ok (.lstore 10, 2) := by decide +kernel
theorem d_Fr_plus_111 : decode c_Fr_plus 111 = .ok (.lload 8, 2) := by decide +kernel
theorem d_Fr_plus_113 : decode c_Fr_plus 113 = .ok (.lconst 0, 1) := by decide +kernel
theorem d_Fr_plus_114 : decode c_Fr_plus 114 = .ok (.lcmp, 1) := by decide +kernel
theorem d_Fr_plus_115 : decode c_Fr_plus 115 = .ok (.ifCond .le 18, 3) := by decide +kernel
theorem d_Fr_plus_118 : decode c_Fr_plus 118 = .ok (.lload 10, 2) := by decide +kernel
theorem d_Fr_plus_120 : decode c_Fr_plus 120 = .ok (.ldc2_w 36, 3) := by decide +kernel
theorem d_Fr_plus_123 : decode c_Fr_plus 123 = .ok (.lload 8, 2) := by decide +kernel
theorem d_Fr_plus_125 : decode c_Fr_plus 125 = .ok (.lsub, 1) := by decide +kernel
theorem d_Fr_plus_126 : decode c_Fr_plus 126 = .ok (.lcmp, 1) := by decide +kernel
theorem d_Fr_plus_127 : decode c_Fr_plus 127 = .ok (.ifCond .le 24, 3) := by decide +kernel
theorem d_Fr_plus_130 : decode c_Fr_plus 130 = .ok (.goto 15, 3) := by decide +kernel
theorem d_Fr_plus_133 : decode c_Fr_plus 133 = .ok (.lload 10, 2) := by decide +kernel
theorem d_Fr_plus_135 : decode c_Fr_plus 135 = .ok (.ldc2_w 38, 3) := by decide +kernel
theorem d_Fr_plus_138 : decode c_Fr_plus 138 = .ok (.lload 8, 2) := by decide +kernel
theorem d_Fr_plus_140 : decode c_Fr_plus 140 = .ok (.lsub, 1) := by decide +kernel
theorem d_Fr_plus_141 : decode c_Fr_plus 141 = .ok (.lcmp, 1) := by decide +kernel
theorem d_Fr_plus_142 : decode c_Fr_plus 142 = .ok (.ifCond .ge 9, 3) := by decide +kernel
theorem d_Fr_plus_145 : decode c_Fr_plus 145 = .ok (.aload_n 0, 1) := by decide +kernel
theorem d_Fr_plus_146 : decode c_Fr_plus 146 = .ok (.iconst 1, 1) := by decide +kernel
theorem d_Fr_plus_147 : decode c_Fr_plus 147 = .ok (.putfield 15, 3) := by decide +kernel
theorem d_Fr_plus_150 : decode c_Fr_plus 150 = .ok (.return_, 1) := by decide +kernel
theorem d_Fr_plus_151 : decode c_Fr_plus 151 = .ok (.aload_n 0, 1) := by decide +kernel
theorem d_Fr_plus_152 : decode c_Fr_plus 152 = .ok (.getfield 9, 3) := by decide +kernel
theorem d_Fr_plus_155 : decode c_Fr_plus 155 = .ok (.lload 4, 2) := by decide +kernel
theorem d_Fr_plus_157 : decode c_Fr_plus 157 = .ok (.lmul, 1) := by decide +kernel
theorem d_Fr_plus_158 : decode c_Fr_plus 158 = .ok (.lstore 12, 2) := by decide +kernel
theorem d_Fr_plus_160 : decode c_Fr_plus 160 = .ok (.lload 8, 2) := by decide +kernel
theorem d_Fr_plus_162 : decode c_Fr_plus 162 = .ok (.lload 10, 2) := by decide +kernel
theorem d_Fr_plus_164 : decode c_Fr_plus 164 = .ok (.ladd, 1) := by decide +kernel
theorem d_Fr_plus_165 : decode c_Fr_plus 165 = .ok (.lload 12, 2) := by decide +kernel
theorem d_Fr_plus_167 : decode c_Fr_plus 167 = .ok (.invokestatic 22, 3) := by decide +kernel
theorem d_Fr_plus_170 : decode c_Fr_plus 170 = .ok (.lstore 14, 2) := by decide +kernel
theorem d_Fr_plus_172 : decode c_Fr_plus 172 = .ok (.aload_n 0, 1) := by decide +kernel
theorem d_Fr_plus_173 : decode c_Fr_plus 173 = .ok (.lload 8, 2) := by decide +kernel
theorem d_Fr_plus_175 : decode c_Fr_plus 175 = .ok (.lload 10, 2) := by decide +kernel
theorem d_Fr_plus_177 : decode c_Fr_plus 177 = .ok (.ladd, 1) := by decide +kernel
theorem d_Fr_plus_178 : decode c_Fr_plus 178 = .ok (.lload 14, 2) := by decide +kernel
theorem d_Fr_plus_180 : decode c_Fr_plus 180 = .ok (.ldiv, 1) := by decide +kernel
theorem d_Fr_plus_181 : decode c_Fr_plus 181 = .ok (.putfield 19, 3) := by decide +kernel
theorem d_Fr_plus_184 : decode c_Fr_plus 184 = .ok (.aload_n 0, 1) := by decide +kernel
theorem d_Fr_plus_185 : decode c_Fr_plus 185 = .ok (.lload 12, 2) := by decide +kernel
theorem d_Fr_plus_187 : decode c_Fr_plus 187 = .ok (.lload 14, 2) := by decide +kernel
theorem d_Fr_plus_189 : decode c_Fr_plus 189 = .ok (.ldiv, 1) := by decide +kernel
theorem d_Fr_plus_190 : decode c_Fr_plus 190 = .ok (.putfield 9, 3) := by decide +kernel
theorem d_Fr_plus_193 : decode c_Fr_plus 193 = .ok (.return_, 1) := by decide +kernel
set_option maxHeartbeats 4000000 in
set_option maxRecDepth 100000 in
theorem s_Fr_plus (l : Launch) (g : Gx) (ws0 : va_W) (sz : Nat) {s : CS} {f : Nat} {a1 : Nat} {res : CS} (hR : cs_Rel g ws0 ws0 s) (hf : f < 12) (ha1 : a1 < 12) (h : fn_Fr_plus s f a1 = some res) : ct_MV l y_Fr_plus c_Fr_plus 16 none rm_Fr_plus g ws0 sz [.ref (g.2.1 (23 + f)), .ref (g.2.1 (23 + a1))]  (fun u => cs_Rel g ws0 u res) := by
  refine ct_startv (by decide +kernel) (Nat.le_of_ble_eq_true rfl) (fun p e sv m args below meth c ls Q A H locs C0 hret hl hw => ?_)
  have hx := C0.1
  have hb := C0.2.1
  have hown := C0.2.2.2.1
  have hts := C0.2.2.2.2.1
  have hl : lv_has ls 16 [(0, .ref (g.2.1 (23 + f))), (1, .ref (g.2.1 (23 + a1)))] := hl
  have J151 : ∀ (ws : va_W) (H : Heap) (locs : List Loc) (ls : Array Slot) (s : CS) (v4 : Int64) (v8 : Int64) (v10 : Int64), ct_Wd g A sv ws H locs → cs_Rel g ws0 ws s → lv_has ls 16 [(0, .ref (g.2.1 (23 + f))), (4, .long v4), (8, .long v8), (10, .long v10)] → bk_Fr_plus_151 f a1 s v4 v8 v10 = some res → W p l e rm_Fr_plus sv m args below meth c H locs 0 0 Q (F0 m 151 ls []) := by
    intro ws H locs ls s v4 v8 v10 hw hR hl h
    unfold bk_Fr_plus_151 at h
    refine lv_aload_n hx hb d_Fr_plus_151 rfl (lv_at hl 0 rfl) ?_
    refine gf_Fr_9 (f := f) hf C0 hw hR d_Fr_plus_152 ?_
    refine lv_lload hx hb d_Fr_plus_155 (lv_at hl 1 rfl) ?_
    refine lv_lmul hx hb d_Fr_plus_157 ?_
    refine lv_topl (fun x1 e9 => ?_)
    have h := ct_nm_at h e9
    clear e9
    refine lv_lstore (lv' := [(12, .long x1), (0, .ref (g.2.1 (23 + f))), (4, .long v4), (8, .long v8), (10, .long v10)]) hx hb d_Fr_plus_158 hl (by decide) rfl (fun ls hl => ?_)
    refine lv_lload hx hb d_Fr_plus_160 (lv_at hl 3 rfl) ?_
    refine lv_lload hx hb d_Fr_plus_162 (lv_at hl 4 rfl) ?_
    refine lv_ladd hx hb d_Fr_plus_164 ?_
    refine lv_lload hx hb d_Fr_plus_165 (lv_at hl 0 rfl) ?_
    obtain ⟨x2, ho, h⟩ := ct_ob_some h
    refine ct_callSl C0 hw hl.1 (ct_giS wd_392 wd_393 wd_6 wd_394) (fun sz => s_Fr_divisor l g ws sz ho) (nA := 2) (rm := rm_Fr_divisor) (by decide +kernel) rfl ⟨rfl, rfl⟩ (by decide) (by decide) (As := [.long (v8 + v10), .long x1]) (rest := []) rfl (Nat.le_of_ble_eq_true rfl) d_Fr_plus_167 (fun ws1 H locs hw hp => ?_)
    rw [hp] at hw
    clear hp
    refine lv_lstore (lv' := [(14, .long x2), (12, .long x1), (0, .ref (g.2.1 (23 + f))), (4, .long v4), (8, .long v8), (10, .long v10)]) hx hb d_Fr_plus_170 hl (by decide) rfl (fun ls hl => ?_)
    refine lv_aload_n hx hb d_Fr_plus_172 rfl (lv_at hl 2 rfl) ?_
    refine lv_lload hx hb d_Fr_plus_173 (lv_at hl 4 rfl) ?_
    refine lv_lload hx hb d_Fr_plus_175 (lv_at hl 5 rfl) ?_
    refine lv_ladd hx hb d_Fr_plus_177 ?_
    refine lv_lload hx hb d_Fr_plus_178 (lv_at hl 0 rfl) ?_
    obtain ⟨hg, h⟩ := ct_gd_some h
    refine lv_ldiv hx hb d_Fr_plus_180 (ct_gzL_ne hg) ?_
    refine pf_Fr_19 (f := f) hf C0 hw hR d_Fr_plus_181 (fun ws H locs hw hR => ?_)
    obtain ⟨s3, es9, h⟩ := ct_nm_ex h
    rw [← es9] at hR
    clear es9
    refine lv_aload_n hx hb d_Fr_plus_184 rfl (lv_at hl 2 rfl) ?_
    refine lv_lload hx hb d_Fr_plus_185 (lv_at hl 1 rfl) ?_
    refine lv_lload hx hb d_Fr_plus_187 (lv_at hl 0 rfl) ?_
    obtain ⟨hg, h⟩ := ct_gd_some h
    refine lv_ldiv hx hb d_Fr_plus_189 (ct_gzL_ne hg) ?_
    refine pf_Fr_9 (f := f) hf C0 hw hR d_Fr_plus_190 (fun ws H locs hw hR => ?_)
    obtain ⟨s4, es9, h⟩ := ct_nm_ex h
    rw [← es9] at hR
    clear es9
    obtain rfl := Option.some.inj h
    exact hret hw hR d_Fr_plus_193
  have J145 : ∀ (ws : va_W) (H : Heap) (locs : List Loc) (ls : Array Slot) (s : CS), ct_Wd g A sv ws H locs → cs_Rel g ws0 ws s → lv_has ls 16 [(0, .ref (g.2.1 (23 + f)))] → bk_Fr_plus_145 f a1 s = some res → W p l e rm_Fr_plus sv m args below meth c H locs 0 0 Q (F0 m 145 ls []) := by
    intro ws H locs ls s hw hR hl h
    unfold bk_Fr_plus_145 at h
    refine lv_aload_n hx hb d_Fr_plus_145 rfl (lv_at hl 0 rfl) ?_
    refine lv_iconst (v := 1) hx hb d_Fr_plus_146 (by decide) ?_
    refine pf_Fr_15 (f := f) hf C0 hw hR d_Fr_plus_147 (fun ws H locs hw hR => ?_)
    obtain ⟨s5, es9, h⟩ := ct_nm_ex h
    rw [← es9] at hR
    clear es9
    obtain rfl := Option.some.inj h
    exact hret hw hR d_Fr_plus_150
  have J87 : ∀ (ws : va_W) (H : Heap) (locs : List Loc) (ls : Array Slot) (s : CS), ct_Wd g A sv ws H locs → cs_Rel g ws0 ws s → lv_has ls 16 [(0, .ref (g.2.1 (23 + f)))] → bk_Fr_plus_87 f a1 s = some res → W p l e rm_Fr_plus sv m args below meth c H locs 0 0 Q (F0 m 87 ls []) := by
    intro ws H locs ls s hw hR hl h
    unfold bk_Fr_plus_87 at h
    refine lv_aload_n hx hb d_Fr_plus_87 rfl (lv_at hl 0 rfl) ?_
    refine lv_iconst (v := 1) hx hb d_Fr_plus_88 (by decide) ?_
    refine pf_Fr_15 (f := f) hf C0 hw hR d_Fr_plus_89 (fun ws H locs hw hR => ?_)
    obtain ⟨s6, es9, h⟩ := ct_nm_ex h
    rw [← es9] at hR
    clear es9
    obtain rfl := Option.some.inj h
    exact hret hw hR d_Fr_plus_92
  unfold fn_Fr_plus at h
  obtain ⟨ws, hwe⟩ : ∃ z : va_W, z = ws0 := ⟨_, rfl⟩
  rw [← hwe] at hw
  have hR : cs_Rel g ws0 ws s := by rw [hwe]; exact hR
  clear hwe
  refine lv_aload_n hx hb d_Fr_plus_0 rfl (lv_at hl 0 rfl) ?_
  refine lv_aload_n hx hb d_Fr_plus_1 rfl (lv_at hl 0 rfl) ?_
  refine gf_Fr_15 (f := f) hf C0 hw hR d_Fr_plus_2 ?_
  refine lv_aload_n hx hb d_Fr_plus_5 rfl (lv_at hl 1 rfl) ?_
  refine gf_Fr_15 (f := a1) ha1 C0 hw hR d_Fr_plus_6 ?_
  refine ma_Fr_26 C0 (by rw [C0.2.2.1]; exact hl.1.symm) (by decide) (Nat.le_of_ble_eq_true rfl) d_Fr_plus_9 ?_
  refine pf_Fr_15 (f := f) hf C0 hw hR d_Fr_plus_12 (fun ws H locs hw hR => ?_)
  obtain ⟨s7, es9, h⟩ := ct_nm_ex h
  rw [← es9] at hR
  clear es9
  refine lv_aload_n hx hb d_Fr_plus_15 rfl (lv_at hl 0 rfl) ?_
  refine gf_Fr_15 (f := f) hf C0 hw hR d_Fr_plus_16 ?_
  refine lv_if_eq hx hb (tgt := 23) d_Fr_plus_19 (by decide) (fun hc9 => ?_) (fun hc9 => ?_)
  · rw [if_pos hc9] at h
    refine lv_aload_n hx hb d_Fr_plus_23 rfl (lv_at hl 0 rfl) ?_
    refine gf_Fr_9 (f := f) hf C0 hw hR d_Fr_plus_24 ?_
    refine lv_aload_n hx hb d_Fr_plus_27 rfl (lv_at hl 1 rfl) ?_
    refine gf_Fr_9 (f := a1) ha1 C0 hw hR d_Fr_plus_28 ?_
    obtain ⟨x8, ho, h⟩ := ct_ob_some h
    refine ct_callSl C0 hw hl.1 (ct_giS wd_392 wd_393 wd_6 wd_394) (fun sz => s_Fr_divisor l g ws sz ho) (nA := 2) (rm := rm_Fr_divisor) (by decide +kernel) rfl ⟨rfl, rfl⟩ (by decide) (by decide) (As := [.long ((cs_F s7 f).2.1), .long ((cs_F s7 a1).2.1)]) (rest := []) rfl (Nat.le_of_ble_eq_true rfl) d_Fr_plus_31 (fun ws1 H locs hw hp => ?_)
    rw [hp] at hw
    clear hp
    refine lv_lstore_n (lv' := [(2, .long x8), (0, .ref (g.2.1 (23 + f))), (1, .ref (g.2.1 (23 + a1)))]) hx hb d_Fr_plus_34 rfl hl (by decide) rfl (fun ls hl => ?_)
    refine lv_aload_n hx hb d_Fr_plus_35 rfl (lv_at hl 2 rfl) ?_
    refine gf_Fr_9 (f := a1) ha1 C0 hw hR d_Fr_plus_36 ?_
    refine lv_lload_n hx hb d_Fr_plus_39 rfl (lv_at hl 0 rfl) ?_
    obtain ⟨hg, h⟩ := ct_gd_some h
    refine lv_ldiv hx hb d_Fr_plus_40 (ct_gzL_ne hg) ?_
    refine lv_topl (fun x9 e9 => ?_)
    have h := ct_nm_at h e9
    clear e9
    refine lv_lstore (lv' := [(4, .long x9), (2, .long x8), (0, .ref (g.2.1 (23 + f))), (1, .ref (g.2.1 (23 + a1)))]) hx hb d_Fr_plus_41 hl (by decide) rfl (fun ls hl => ?_)
    refine lv_aload_n hx hb d_Fr_plus_43 rfl (lv_at hl 2 rfl) ?_
    refine gf_Fr_9 (f := f) hf C0 hw hR d_Fr_plus_44 ?_
    refine lv_lload_n hx hb d_Fr_plus_47 rfl (lv_at hl 1 rfl) ?_
    obtain ⟨hg, h⟩ := ct_gd_some h
    refine lv_ldiv hx hb d_Fr_plus_48 (ct_gzL_ne hg) ?_
    refine lv_topl (fun x10 e9 => ?_)
    have h := ct_nm_at h e9
    clear e9
    refine lv_lstore (lv' := [(6, .long x10), (4, .long x9), (2, .long x8), (0, .ref (g.2.1 (23 + f))), (1, .ref (g.2.1 (23 + a1)))]) hx hb d_Fr_plus_49 hl (by decide) rfl (fun ls hl => ?_)
    refine lv_aload_n hx hb d_Fr_plus_51 rfl (lv_at hl 3 rfl) ?_
    refine gf_Fr_9 (f := f) hf C0 hw hR d_Fr_plus_52 ?_
    refine lv_lload hx hb d_Fr_plus_55 (lv_at hl 1 rfl) ?_
    obtain ⟨x11, ho, h⟩ := ct_ob_some h
    refine ct_callSi C0 hw hl.1 (ct_giS wd_567 wd_568 wd_6 wd_569) (fun sz => s_Fr_fits l g ws sz ho) (nA := 2) (rm := rm_Fr_fits) (by decide +kernel) rfl ⟨rfl, rfl⟩ (by decide) (by decide) (As := [.long ((cs_F s7 f).2.1), .long x9]) (rest := []) rfl (Nat.le_of_ble_eq_true rfl) d_Fr_plus_57 (fun ws1 H locs hw hp => ?_)
    rw [hp] at hw
    clear hp
    refine lv_if_eq hx hb (tgt := 87) d_Fr_plus_60 (by decide) (fun hc9 => ?_) (fun hc9 => ?_)
    · rw [if_pos hc9] at h
      exact J87 ws H locs ls s7 hw hR (lv_sub hl [3] rfl) h
    · rw [if_neg hc9] at h
      refine lv_aload_n hx hb d_Fr_plus_63 rfl (lv_at hl 3 rfl) ?_
      refine gf_Fr_19 (f := f) hf C0 hw hR d_Fr_plus_64 ?_
      refine lv_lload hx hb d_Fr_plus_67 (lv_at hl 1 rfl) ?_
      obtain ⟨x12, ho, h⟩ := ct_ob_some h
      refine ct_callSi C0 hw hl.1 (ct_giS wd_567 wd_568 wd_6 wd_569) (fun sz => s_Fr_fits l g ws sz ho) (nA := 2) (rm := rm_Fr_fits) (by decide +kernel) rfl ⟨rfl, rfl⟩ (by decide) (by decide) (As := [.long ((cs_F s7 f).1), .long x9]) (rest := []) rfl (Nat.le_of_ble_eq_true rfl) d_Fr_plus_69 (fun ws1 H locs hw hp => ?_)
      rw [hp] at hw
      clear hp
      refine lv_if_eq hx hb (tgt := 87) d_Fr_plus_72 (by decide) (fun hc9 => ?_) (fun hc9 => ?_)
      · rw [if_pos hc9] at h
        exact J87 ws H locs ls s7 hw hR (lv_sub hl [3] rfl) h
      · rw [if_neg hc9] at h
        refine lv_aload_n hx hb d_Fr_plus_75 rfl (lv_at hl 4 rfl) ?_
        refine gf_Fr_19 (f := a1) ha1 C0 hw hR d_Fr_plus_76 ?_
        refine lv_lload hx hb d_Fr_plus_79 (lv_at hl 0 rfl) ?_
        obtain ⟨x13, ho, h⟩ := ct_ob_some h
        refine ct_callSi C0 hw hl.1 (ct_giS wd_567 wd_568 wd_6 wd_569) (fun sz => s_Fr_fits l g ws sz ho) (nA := 2) (rm := rm_Fr_fits) (by decide +kernel) rfl ⟨rfl, rfl⟩ (by decide) (by decide) (As := [.long ((cs_F s7 a1).1), .long x10]) (rest := []) rfl (Nat.le_of_ble_eq_true rfl) d_Fr_plus_81 (fun ws1 H locs hw hp => ?_)
        rw [hp] at hw
        clear hp
        refine lv_if_ne hx hb (tgt := 93) d_Fr_plus_84 (by decide) (fun hc9 => ?_) (fun hc9 => ?_)
        · rw [if_pos hc9] at h
          refine lv_aload_n hx hb d_Fr_plus_93 rfl (lv_at hl 3 rfl) ?_
          refine gf_Fr_19 (f := f) hf C0 hw hR d_Fr_plus_94 ?_
          refine lv_lload hx hb d_Fr_plus_97 (lv_at hl 1 rfl) ?_
          refine lv_lmul hx hb d_Fr_plus_99 ?_
          refine lv_topl (fun x14 e9 => ?_)
          have h := ct_nm_at h e9
          clear e9
          refine lv_lstore (lv' := [(8, .long x14), (6, .long x10), (4, .long x9), (2, .long x8), (0, .ref (g.2.1 (23 + f))), (1, .ref (g.2.1 (23 + a1)))]) hx hb d_Fr_plus_100 hl (by decide) rfl (fun ls hl => ?_)
          refine lv_aload_n hx hb d_Fr_plus_102 rfl (lv_at hl 5 rfl) ?_
          refine gf_Fr_19 (f := a1) ha1 C0 hw hR d_Fr_plus_103 ?_
          refine lv_lload hx hb d_Fr_plus_106 (lv_at hl 1 rfl) ?_
          refine lv_lmul hx hb d_Fr_plus_108 ?_
          refine lv_topl (fun x15 e9 => ?_)
          have h := ct_nm_at h e9
          clear e9
          refine lv_lstore (lv' := [(10, .long x15), (8, .long x14), (6, .long x10), (4, .long x9), (2, .long x8), (0, .ref (g.2.1 (23 + f))), (1, .ref (g.2.1 (23 + a1)))]) hx hb d_Fr_plus_109 hl (by decide) rfl (fun ls hl => ?_)
          refine lv_lload hx hb d_Fr_plus_111 (lv_at hl 1 rfl) ?_
          refine lv_lconst (v := 0) hx hb d_Fr_plus_113 (by decide) ?_
          refine W.lcmp hx hb d_Fr_plus_114 ?_
          refine lv_if_le hx hb (tgt := 133) d_Fr_plus_115 (by decide) (fun hc9 => ?_) (fun hc9 => ?_)
          · rw [if_pos hc9] at h
            refine lv_lload hx hb d_Fr_plus_133 (lv_at hl 0 rfl) ?_
            refine lv_ldc2 (v := (-4611686018427387904)) hx hb hown (hts _ wd_595) d_Fr_plus_135 ?_
            refine lv_lload hx hb d_Fr_plus_138 (lv_at hl 1 rfl) ?_
            refine lv_lsub hx hb d_Fr_plus_140 ?_
            refine W.lcmp hx hb d_Fr_plus_141 ?_
            refine lv_if_ge hx hb (tgt := 151) d_Fr_plus_142 (by decide) (fun hc9 => ?_) (fun hc9 => ?_)
            · rw [if_pos hc9] at h
              exact J151 ws H locs ls s7 x9 x14 x15 hw hR (lv_sub hl [5, 3, 1, 0] rfl) h
            · rw [if_neg hc9] at h
              exact J145 ws H locs ls s7 hw hR (lv_sub hl [5] rfl) h
          · rw [if_neg hc9] at h
            refine lv_lload hx hb d_Fr_plus_118 (lv_at hl 0 rfl) ?_
            refine lv_ldc2 (v := 4611686018427387904) hx hb hown (hts _ wd_570) d_Fr_plus_120 ?_
            refine lv_lload hx hb d_Fr_plus_123 (lv_at hl 1 rfl) ?_
            refine lv_lsub hx hb d_Fr_plus_125 ?_
            refine W.lcmp hx hb d_Fr_plus_126 ?_
            refine lv_if_le hx hb (tgt := 151) d_Fr_plus_127 (by decide) (fun hc9 => ?_) (fun hc9 => ?_)
            · rw [if_pos hc9] at h
              exact J151 ws H locs ls s7 x9 x14 x15 hw hR (lv_sub hl [5, 3, 1, 0] rfl) h
            · rw [if_neg hc9] at h
              refine lv_goto hx hb (tgt := 145) d_Fr_plus_130 (by decide) ?_
              exact J145 ws H locs ls s7 hw hR (lv_sub hl [5] rfl) h
        · rw [if_neg (fun q => q hc9)] at h
          exact J87 ws H locs ls s7 hw hR (lv_sub hl [3] rfl) h
  · rw [if_neg hc9] at h
    obtain rfl := Option.some.inj h
    exact hret hw hR d_Fr_plus_22

theorem d_Tr_latestOf_0 : decode c_Tr_latestOf 0 = .ok (.aload_n 0, 1) := by decide +kernel
theorem d_Tr_latestOf_1 : decode c_Tr_latestOf 1 = .ok (.getfield 11, 3) := by decide +kernel
theorem d_Tr_latestOf_4 : decode c_Tr_latestOf 4 = .ok (.iload_n 1, 1) := by decide +kernel
theorem d_Tr_latestOf_5 : decode c_Tr_latestOf 5 = .ok (.aaload, 1) := by decide +kernel
theorem d_Tr_latestOf_6 : decode c_Tr_latestOf 6 = .ok (.aload_n 0, 1) := by decide +kernel
theorem d_Tr_latestOf_7 : decode c_Tr_latestOf 7 = .ok (.invokevirtual 37, 3) := by decide +kernel
theorem d_Tr_latestOf_10 : decode c_Tr_latestOf 10 = .ok (.iconst 1, 1) := by decide +kernel
theorem d_Tr_latestOf_11 : decode c_Tr_latestOf 11 = .ok (.isub, 1) := by decide +kernel
theorem d_Tr_latestOf_12 : decode c_Tr_latestOf 12 = .ok (.iload_n 1, 1) := by decide +kernel
theorem d_Tr_latestOf_13 : decode c_Tr_latestOf 13 = .ok (.isub, 1) := by decide +kernel
theorem d_Tr_latestOf_14 : decode c_Tr_latestOf 14 = .ok (.iaload, 1) := by decide +kernel
theorem d_Tr_latestOf_15 : decode c_Tr_latestOf 15 = .ok (.ireturn, 1) := by decide +kernel
set_option maxHeartbeats 4000000 in
set_option maxRecDepth 100000 in
theorem s_Tr_latestOf (l : Launch) (g : Gx) (ws0 : va_W) (sz : Nat) {s : CS} {a1 : Int32} {res : Int32} (hR : cs_Rel g ws0 ws0 s) (h : fn_Tr_latestOf s a1 = some res) : ct_MI l y_Tr_latestOf c_Tr_latestOf 2 (some .int) rm_Tr_latestOf g ws0 sz [.ref (g.2.1 2), .int a1] res (fun u => u = ws0) := by
  refine ct_starti (by decide +kernel) (Nat.le_of_ble_eq_true rfl) (fun p e sv m args below meth c ls Q A H locs C0 hret hl hw => ?_)
  have hx := C0.1
  have hb := C0.2.1
  have hown := C0.2.2.2.1
  have hts := C0.2.2.2.2.1
  have hl : lv_has ls 2 [(0, .ref (g.2.1 2)), (1, .int a1)] := hl
  unfold fn_Tr_latestOf at h
  refine lv_aload_n hx hb d_Tr_latestOf_0 rfl (lv_at hl 0 rfl) ?_
  refine gf_Tr_11 C0 hw hR d_Tr_latestOf_1 ?_
  refine lv_iload_n hx hb d_Tr_latestOf_4 rfl (lv_at hl 1 rfl) ?_
  obtain ⟨hg5, h⟩ := ct_gd_some h
  refine ct_ldoc C0 hw hR (ct_inR_vp hg5) d_Tr_latestOf_5 ?_
  refine lv_aload_n hx hb d_Tr_latestOf_6 rfl (lv_at hl 0 rfl) ?_
  obtain ⟨x1, ho, h⟩ := ct_ob_some h
  refine ct_callVi C0 hw hl.1 (q0 := 2) (hR.1 2 (by decide)) rfl (ct_giV wd_600 wd_424 wd_425 wd_4 wd_426) (fun sz => s_Tr_shown l g ws0 sz hR.rf ho) (nA := 0) (rm := rm_Tr_shown) (by decide +kernel) rfl ⟨rfl, rfl⟩ (by decide) (by decide) (As := []) (rest := [.ref (g.2.1 (15 + a1.toNatClampNeg))]) rfl (Nat.le_of_ble_eq_true rfl) d_Tr_latestOf_7 (fun ws1 H locs hw hp => ?_)
  rw [hp] at hw
  clear hp
  refine lv_iconst (v := 1) hx hb d_Tr_latestOf_10 (by decide) ?_
  refine lv_isub hx hb d_Tr_latestOf_11 ?_
  refine lv_iload_n hx hb d_Tr_latestOf_12 rfl (lv_at hl 1 rfl) ?_
  refine lv_isub hx hb d_Tr_latestOf_13 ?_
  obtain ⟨hg14, h⟩ := ct_gd_some h
  refine ct_ldrw C0 hw hR (ct_inR_lt hg5) (ct_inR_vp hg14) d_Tr_latestOf_14 ?_
  obtain rfl := Option.some.inj h
  exact hret hw rfl d_Tr_latestOf_15

theorem d_Re_blend_0 : decode c_Re_blend 0 = .ok (.aload_n 0, 1) := by decide +kernel
theorem d_Re_blend_1 : decode c_Re_blend 1 = .ok (.getfield 34, 3) := by decide +kernel
theorem d_Re_blend_4 : decode c_Re_blend 4 = .ok (.invokevirtual 143, 3) := by decide +kernel
theorem d_Re_blend_7 : decode c_Re_blend 7 = .ok (.aload_n 0, 1) := by decide +kernel
theorem d_Re_blend_8 : decode c_Re_blend 8 = .ok (.getfield 34, 3) := by decide +kernel
theorem d_Re_blend_11 : decode c_Re_blend 11 = .ok (.invokevirtual 123, 3) := by decide +kernel
theorem d_Re_blend_14 : decode c_Re_blend 14 = .ok (.aload_n 0, 1) := by decide +kernel
theorem d_Re_blend_15 : decode c_Re_blend 15 = .ok (.getfield 34, 3) := by decide +kernel
theorem d_Re_blend_18 : decode c_Re_blend 18 = .ok (.aload_n 0, 1) := by decide +kernel
theorem d_Re_blend_19 : decode c_Re_blend 19 = .ok (.lconst 1, 1) := by decide +kernel
theorem d_Re_blend_20 : decode c_Re_blend 20 = .ok (.invokevirtual 95, 3) := by decide +kernel
theorem d_Re_blend_23 : decode c_Re_blend 23 = .ok (.invokevirtual 102, 3) := by decide +kernel
theorem d_Re_blend_26 : decode c_Re_blend 26 = .ok (.aload_n 0, 1) := by decide +kernel
theorem d_Re_blend_27 : decode c_Re_blend 27 = .ok (.getfield 34, 3) := by decide +kernel
theorem d_Re_blend_30 : decode c_Re_blend 30 = .ok (.aload_n 0, 1) := by decide +kernel
theorem d_Re_blend_31 : decode c_Re_blend 31 = .ok (.getfield 41, 3) := by decide +kernel
theorem d_Re_blend_34 : decode c_Re_blend 34 = .ok (.invokevirtual 85, 3) := by decide +kernel
theorem d_Re_blend_37 : decode c_Re_blend 37 = .ok (.aload_n 0, 1) := by decide +kernel
theorem d_Re_blend_38 : decode c_Re_blend 38 = .ok (.getfield 34, 3) := by decide +kernel
theorem d_Re_blend_41 : decode c_Re_blend 41 = .ok (.aload_n 0, 1) := by decide +kernel
theorem d_Re_blend_42 : decode c_Re_blend 42 = .ok (.aload_n 0, 1) := by decide +kernel
theorem d_Re_blend_43 : decode c_Re_blend 43 = .ok (.getfield 12, 3) := by decide +kernel
theorem d_Re_blend_46 : decode c_Re_blend 46 = .ok (.iload_n 1, 1) := by decide +kernel
theorem d_Re_blend_47 : decode c_Re_blend 47 = .ok (.invokevirtual 91, 3) := by decide +kernel
theorem d_Re_blend_50 : decode c_Re_blend 50 = .ok (.i2l, 1) := by decide +kernel
theorem d_Re_blend_51 : decode c_Re_blend 51 = .ok (.invokevirtual 95, 3) := by decide +kernel
theorem d_Re_blend_54 : decode c_Re_blend 54 = .ok (.invokevirtual 102, 3) := by decide +kernel
theorem d_Re_blend_57 : decode c_Re_blend 57 = .ok (.return_, 1) := by decide +kernel
set_option maxHeartbeats 4000000 in
set_option maxRecDepth 100000 in
theorem s_Re_blend (l : Launch) (g : Gx) (ws0 : va_W) (sz : Nat) {s : CS} {a1 : Int32} {res : CS} (hR : cs_Rel g ws0 ws0 s) (h : fn_Re_blend s a1 = some res) : ct_MV l y_Re_blend c_Re_blend 2 none rm_Re_blend g ws0 sz [.ref (g.2.1 4), .int a1]  (fun u => cs_Rel g ws0 u res) := by
  refine ct_startv (by decide +kernel) (Nat.le_of_ble_eq_true rfl) (fun p e sv m args below meth c ls Q A H locs C0 hret hl hw => ?_)
  have hx := C0.1
  have hb := C0.2.1
  have hown := C0.2.2.2.1
  have hts := C0.2.2.2.2.1
  have hl : lv_has ls 2 [(0, .ref (g.2.1 4)), (1, .int a1)] := hl
  unfold fn_Re_blend at h
  obtain ⟨ws, hwe⟩ : ∃ z : va_W, z = ws0 := ⟨_, rfl⟩
  rw [← hwe] at hw
  have hR : cs_Rel g ws0 ws s := by rw [hwe]; exact hR
  clear hwe
  refine lv_aload_n hx hb d_Re_blend_0 rfl (lv_at hl 0 rfl) ?_
  refine gf_Re_34 C0 hw hR d_Re_blend_1 ?_
  obtain ⟨s1, ho, h⟩ := ct_ob_some h
  refine ct_callVv C0 hw hl.1 (hR.F (f := 8) (by decide)) rfl (ct_giV wd_579 wd_580 wd_581 wd_6 wd_582) (fun sz => s_Fr_invert l g ws sz hR.rf (by decide) ho) (nA := 0) (rm := rm_Fr_invert) (by decide +kernel) rfl ⟨rfl, rfl⟩ (by decide) (by decide) (As := []) (rest := []) rfl (Nat.le_of_ble_eq_true rfl) d_Re_blend_4 (fun ws1 H locs hw hp => ?_)
  have hR := hR.trans hp
  clear hp
  generalize ws1 = ws at hw hR
  refine lv_aload_n hx hb d_Re_blend_7 rfl (lv_at hl 0 rfl) ?_
  refine gf_Re_34 C0 hw hR d_Re_blend_8 ?_
  obtain ⟨s2, ho, h⟩ := ct_ob_some h
  refine ct_callVv C0 hw hl.1 (hR.F (f := 8) (by decide)) rfl (ct_giV wd_583 wd_584 wd_585 wd_6 wd_586) (fun sz => s_Fr_negate l g ws sz hR.rf (by decide) ho) (nA := 0) (rm := rm_Fr_negate) (by decide +kernel) rfl ⟨rfl, rfl⟩ (by decide) (by decide) (As := []) (rest := []) rfl (Nat.le_of_ble_eq_true rfl) d_Re_blend_11 (fun ws1 H locs hw hp => ?_)
  have hR := hR.trans hp
  clear hp
  generalize ws1 = ws at hw hR
  refine lv_aload_n hx hb d_Re_blend_14 rfl (lv_at hl 0 rfl) ?_
  refine gf_Re_34 C0 hw hR d_Re_blend_15 ?_
  refine lv_aload_n hx hb d_Re_blend_18 rfl (lv_at hl 0 rfl) ?_
  refine lv_lconst (v := 1) hx hb d_Re_blend_19 (by decide) ?_
  obtain ⟨x3, s4, ho, h⟩ := ct_ob2_some h
  refine ct_callVr C0 hw hl.1 (q0 := 4) (hR.1 4 (by decide)) rfl (ct_giV wd_587 wd_589 sel_Re_asWhole wd_3 wd_590) (fun sz => s_Re_asWhole l g ws sz hR.rf ho) (nA := 1) (rm := rm_Re_asWhole) (by decide +kernel) rfl ⟨rfl, rfl⟩ (by decide) (by decide) (As := [.long 1]) (rest := [.ref (g.2.1 31)]) rfl (Nat.le_of_ble_eq_true rfl) d_Re_blend_20 (fun ws1 H locs hw hp => ?_)
  have hR := hR.trans hp
  clear hp
  generalize ws1 = ws at hw hR
  have hx3 : x3 < 12 := lt_Re_asWhole ho
  obtain ⟨s5, ho, h⟩ := ct_ob_some h
  refine ct_callVv C0 hw hl.1 (hR.F (f := 8) (by decide)) rfl (ct_giV wd_591 wd_592 wd_593 wd_6 wd_594) (fun sz => s_Fr_plus l g ws sz hR.rf (by decide) hx3 ho) (nA := 1) (rm := rm_Fr_plus) (by decide +kernel) rfl ⟨rfl, rfl⟩ (by decide) (by decide) (As := [.ref (g.2.1 (23 + x3))]) (rest := []) rfl (Nat.le_of_ble_eq_true rfl) d_Re_blend_23 (fun ws1 H locs hw hp => ?_)
  have hR := hR.trans hp
  clear hp
  generalize ws1 = ws at hw hR
  refine lv_aload_n hx hb d_Re_blend_26 rfl (lv_at hl 0 rfl) ?_
  refine gf_Re_34 C0 hw hR d_Re_blend_27 ?_
  refine lv_aload_n hx hb d_Re_blend_30 rfl (lv_at hl 0 rfl) ?_
  refine gf_Re_41 C0 hw hR d_Re_blend_31 ?_
  obtain ⟨s6, ho, h⟩ := ct_ob_some h
  refine ct_callVv C0 hw hl.1 (hR.F (f := 8) (by decide)) rfl (ct_giV wd_560 wd_561 wd_562 wd_6 wd_563) (fun sz => s_Fr_times l g ws sz hR.rf (by decide) (by decide) ho) (nA := 1) (rm := rm_Fr_times) (by decide +kernel) rfl ⟨rfl, rfl⟩ (by decide) (by decide) (As := [.ref (g.2.1 33)]) (rest := []) rfl (Nat.le_of_ble_eq_true rfl) d_Re_blend_34 (fun ws1 H locs hw hp => ?_)
  have hR := hR.trans hp
  clear hp
  generalize ws1 = ws at hw hR
  refine lv_aload_n hx hb d_Re_blend_37 rfl (lv_at hl 0 rfl) ?_
  refine gf_Re_34 C0 hw hR d_Re_blend_38 ?_
  refine lv_aload_n hx hb d_Re_blend_41 rfl (lv_at hl 0 rfl) ?_
  refine lv_aload_n hx hb d_Re_blend_42 rfl (lv_at hl 0 rfl) ?_
  refine gf_Re_12 C0 hw hR d_Re_blend_43 ?_
  refine lv_iload_n hx hb d_Re_blend_46 rfl (lv_at hl 1 rfl) ?_
  obtain ⟨x7, ho, h⟩ := ct_ob_some h
  refine ct_callVi C0 hw hl.1 (q0 := 2) (hR.1 2 (by decide)) rfl (ct_giV wd_596 wd_597 wd_598 wd_4 wd_599) (fun sz => s_Tr_latestOf l g ws sz hR.rf ho) (nA := 1) (rm := rm_Tr_latestOf) (by decide +kernel) rfl ⟨rfl, rfl⟩ (by decide) (by decide) (As := [.int a1]) (rest := [.ref (g.2.1 4), .ref (g.2.1 31)]) rfl (Nat.le_of_ble_eq_true rfl) d_Re_blend_47 (fun ws1 H locs hw hp => ?_)
  rw [hp] at hw
  clear hp
  refine lv_i2l hx hb d_Re_blend_50 rfl ?_
  obtain ⟨x8, s9, ho, h⟩ := ct_ob2_some h
  refine ct_callVr C0 hw hl.1 (q0 := 4) (hR.1 4 (by decide)) rfl (ct_giV wd_587 wd_589 sel_Re_asWhole wd_3 wd_590) (fun sz => s_Re_asWhole l g ws sz hR.rf ho) (nA := 1) (rm := rm_Re_asWhole) (by decide +kernel) rfl ⟨rfl, rfl⟩ (by decide) (by decide) (As := [.long x7.toInt64]) (rest := [.ref (g.2.1 31)]) rfl (Nat.le_of_ble_eq_true rfl) d_Re_blend_51 (fun ws1 H locs hw hp => ?_)
  have hR := hR.trans hp
  clear hp
  generalize ws1 = ws at hw hR
  have hx8 : x8 < 12 := lt_Re_asWhole ho
  obtain ⟨s10, ho, h⟩ := ct_ob_some h
  refine ct_callVv C0 hw hl.1 (hR.F (f := 8) (by decide)) rfl (ct_giV wd_591 wd_592 wd_593 wd_6 wd_594) (fun sz => s_Fr_plus l g ws sz hR.rf (by decide) hx8 ho) (nA := 1) (rm := rm_Fr_plus) (by decide +kernel) rfl ⟨rfl, rfl⟩ (by decide) (by decide) (As := [.ref (g.2.1 (23 + x8))]) (rest := []) rfl (Nat.le_of_ble_eq_true rfl) d_Re_blend_54 (fun ws1 H locs hw hp => ?_)
  have hR := hR.trans hp
  clear hp
  generalize ws1 = ws at hw hR
  obtain rfl := Option.some.inj h
  exact hret hw hR d_Re_blend_57

theorem d_Re_toUltimate_0 : decode c_Re_toUltimate 0 = .ok (.iload_n 1, 1) := by decide +kernel
theorem d_Re_toUltimate_1 : decode c_Re_toUltimate 1 = .ok (.iconst 2, 1) := by decide +kernel
theorem d_Re_toUltimate_2 : decode c_Re_toUltimate 2 = .ok (.if_icmp .eq 8, 3) := by decide +kernel
theorem d_Re_toUltimate_5 : decode c_Re_toUltimate 5 = .ok (.iload_n 1, 1) := by decide +kernel
theorem d_Re_toUltimate_6 : decode c_Re_toUltimate 6 = .ok (.iconst 3, 1) := by decide +kernel
theorem d_Re_toUltimate_7 : decode c_Re_toUltimate 7 = .ok (.if_icmp .ne 8, 3) := by decide +kernel
theorem d_Re_toUltimate_10 : decode c_Re_toUltimate 10 = .ok (.aload_n 0, 1) := by decide +kernel
theorem d_Re_toUltimate_11 : decode c_Re_toUltimate 11 = .ok (.iload_n 2, 1) := by decide +kernel
theorem d_Re_toUltimate_12 : decode c_Re_toUltimate 12 = .ok (.invokevirtual 75, 3) := by decide +kernel
theorem d_Re_toUltimate_15 : decode c_Re_toUltimate 15 = .ok (.iload_n 1, 1) := by decide +kernel
theorem d_Re_toUltimate_16 : decode c_Re_toUltimate 16 = .ok (.iconst 2, 1) := by decide +kernel
theorem d_Re_toUltimate_17 : decode c_Re_toUltimate 17 = .ok (.if_icmp .ne 15, 3) := by decide +kernel
theorem d_Re_toUltimate_20 : decode c_Re_toUltimate 20 = .ok (.aload_n 0, 1) := by decide +kernel
theorem d_Re_toUltimate_21 : decode c_Re_toUltimate 21 = .ok (.getfield 34, 3) := by decide +kernel
theorem d_Re_toUltimate_24 : decode c_Re_toUltimate 24 = .ok (.aload_n 0, 1) := by decide +kernel
theorem d_Re_toUltimate_25 : decode c_Re_toUltimate 25 = .ok (.getfield 41, 3) := by decide +kernel
theorem d_Re_toUltimate_28 : decode c_Re_toUltimate 28 = .ok (.invokevirtual 71, 3) := by decide +kernel
theorem d_Re_toUltimate_31 : decode c_Re_toUltimate 31 = .ok (.return_, 1) := by decide +kernel
theorem d_Re_toUltimate_32 : decode c_Re_toUltimate 32 = .ok (.aload_n 0, 1) := by decide +kernel
theorem d_Re_toUltimate_33 : decode c_Re_toUltimate 33 = .ok (.aload_n 0, 1) := by decide +kernel
theorem d_Re_toUltimate_34 : decode c_Re_toUltimate 34 = .ok (.getfield 12, 3) := by decide +kernel
theorem d_Re_toUltimate_37 : decode c_Re_toUltimate 37 = .ok (.invokevirtual 51, 3) := by decide +kernel
theorem d_Re_toUltimate_40 : decode c_Re_toUltimate 40 = .ok (.iconst 1, 1) := by decide +kernel
theorem d_Re_toUltimate_41 : decode c_Re_toUltimate 41 = .ok (.isub, 1) := by decide +kernel
theorem d_Re_toUltimate_42 : decode c_Re_toUltimate 42 = .ok (.iload_n 2, 1) := by decide +kernel
theorem d_Re_toUltimate_43 : decode c_Re_toUltimate 43 = .ok (.isub, 1) := by decide +kernel
theorem d_Re_toUltimate_44 : decode c_Re_toUltimate 44 = .ok (.aload_n 0, 1) := by decide +kernel
theorem d_Re_toUltimate_45 : decode c_Re_toUltimate 45 = .ok (.getfield 12, 3) := by decide +kernel
theorem d_Re_toUltimate_48 : decode c_Re_toUltimate 48 = .ok (.invokevirtual 51, 3) := by decide +kernel
theorem d_Re_toUltimate_51 : decode c_Re_toUltimate 51 = .ok (.iconst 2, 1) := by decide +kernel
theorem d_Re_toUltimate_52 : decode c_Re_toUltimate 52 = .ok (.isub, 1) := by decide +kernel
theorem d_Re_toUltimate_53 : decode c_Re_toUltimate 53 = .ok (.invokevirtual 79, 3) := by decide +kernel
theorem d_Re_toUltimate_56 : decode c_Re_toUltimate 56 = .ok (.aload_n 0, 1) := by decide +kernel
theorem d_Re_toUltimate_57 : decode c_Re_toUltimate 57 = .ok (.getfield 34, 3) := by decide +kernel
theorem d_Re_toUltimate_60 : decode c_Re_toUltimate 60 = .ok (.aload_n 0, 1) := by decide +kernel
theorem d_Re_toUltimate_61 : decode c_Re_toUltimate 61 = .ok (.getfield 21, 3) := by decide +kernel
theorem d_Re_toUltimate_64 : decode c_Re_toUltimate 64 = .ok (.getfield 82, 3) := by decide +kernel
theorem d_Re_toUltimate_67 : decode c_Re_toUltimate 67 = .ok (.invokevirtual 85, 3) := by decide +kernel
theorem d_Re_toUltimate_70 : decode c_Re_toUltimate 70 = .ok (.iload_n 1, 1) := by decide +kernel
theorem d_Re_toUltimate_71 : decode c_Re_toUltimate 71 = .ok (.iconst 3, 1) := by decide +kernel
theorem d_Re_toUltimate_72 : decode c_Re_toUltimate 72 = .ok (.if_icmp .ne 11, 3) := by decide +kernel
theorem d_Re_toUltimate_75 : decode c_Re_toUltimate 75 = .ok (.aload_n 0, 1) := by decide +kernel
theorem d_Re_toUltimate_76 : decode c_Re_toUltimate 76 = .ok (.iload_n 2, 1) := by decide +kernel
theorem d_Re_toUltimate_77 : decode c_Re_toUltimate 77 = .ok (.invokevirtual 88, 3) := by decide +kernel
theorem d_Re_toUltimate_80 : decode c_Re_toUltimate 80 = .ok (.goto 23, 3) := by decide +kernel
theorem d_Re_toUltimate_83 : decode c_Re_toUltimate 83 = .ok (.aload_n 0, 1) := by decide +kernel
theorem d_Re_toUltimate_84 : decode c_Re_toUltimate 84 = .ok (.getfield 34, 3) := by decide +kernel
theorem d_Re_toUltimate_87 : decode c_Re_toUltimate 87 = .ok (.aload_n 0, 1) := by decide +kernel
theorem d_Re_toUltimate_88 : decode c_Re_toUltimate 88 = .ok (.aload_n 0, 1) := by decide +kernel
theorem d_Re_toUltimate_89 : decode c_Re_toUltimate 89 = .ok (.getfield 12, 3) := by decide +kernel
theorem d_Re_toUltimate_92 : decode c_Re_toUltimate 92 = .ok (.iload_n 2, 1) := by decide +kernel
theorem d_Re_toUltimate_93 : decode c_Re_toUltimate 93 = .ok (.invokevirtual 91, 3) := by decide +kernel
theorem d_Re_toUltimate_96 : decode c_Re_toUltimate 96 = .ok (.i2l, 1) := by decide +kernel
theorem d_Re_toUltimate_97 : decode c_Re_toUltimate 97 = .ok (.invokevirtual 95, 3) := by decide +kernel
theorem d_Re_toUltimate_100 : decode c_Re_toUltimate 100 = .ok (.invokevirtual 85, 3) := by decide +kernel
theorem d_Re_toUltimate_103 : decode c_Re_toUltimate 103 = .ok (.return_, 1) := by decide +kernel
set_option maxHeartbeats 4000000 in
set_option maxRecDepth 100000 in
theorem s_Re_toUltimate (l : Launch) (g : Gx) (ws0 : va_W) (sz : Nat) {s : CS} {a1 : Int32} {a2 : Int32} {res : CS} (hR : cs_Rel g ws0 ws0 s) (h : fn_Re_toUltimate s a1 a2 = some res) : ct_MV l y_Re_toUltimate c_Re_toUltimate 3 none rm_Re_toUltimate g ws0 sz [.ref (g.2.1 4), .int a1, .int a2]  (fun u => cs_Rel g ws0 u res) := by
  refine ct_startv (by decide +kernel) (Nat.le_of_ble_eq_true rfl) (fun p e sv m args below meth c ls Q A H locs C0 hret hl hw => ?_)
  have hx := C0.1
  have hb := C0.2.1
  have hown := C0.2.2.2.1
  have hts := C0.2.2.2.2.1
  have hl : lv_has ls 3 [(0, .ref (g.2.1 4)), (1, .int a1), (2, .int a2)] := hl
  have J15 : ∀ (ws : va_W) (H : Heap) (locs : List Loc) (ls : Array Slot) (s : CS), ct_Wd g A sv ws H locs → cs_Rel g ws0 ws s → lv_has ls 3 [(0, .ref (g.2.1 4)), (1, .int a1), (2, .int a2)] → bk_Re_toUltimate_15 a1 a2 s = some res → W p l e rm_Re_toUltimate sv m args below meth c H locs 0 0 Q (F0 m 15 ls []) := by
    intro ws H locs ls s hw hR hl h
    unfold bk_Re_toUltimate_15 at h
    refine lv_iload_n hx hb d_Re_toUltimate_15 rfl (lv_at hl 1 rfl) ?_
    refine lv_iconst (v := 2) hx hb d_Re_toUltimate_16 (by decide) ?_
    refine lv_icmp_ne hx hb (tgt := 32) d_Re_toUltimate_17 (by decide) (fun hc9 => ?_) (fun hc9 => ?_)
    · rw [if_pos hc9] at h
      refine lv_aload_n hx hb d_Re_toUltimate_32 rfl (lv_at hl 0 rfl) ?_
      refine lv_aload_n hx hb d_Re_toUltimate_33 rfl (lv_at hl 0 rfl) ?_
      refine gf_Re_12 C0 hw hR d_Re_toUltimate_34 ?_
      obtain ⟨x1, ho, h⟩ := ct_ob_some h
      refine ct_callVi C0 hw hl.1 (q0 := 2) (hR.1 2 (by decide)) rfl (ct_giV wd_471 wd_424 wd_425 wd_4 wd_426) (fun sz => s_Tr_shown l g ws sz hR.rf ho) (nA := 0) (rm := rm_Tr_shown) (by decide +kernel) rfl ⟨rfl, rfl⟩ (by decide) (by decide) (As := []) (rest := [.ref (g.2.1 4)]) rfl (Nat.le_of_ble_eq_true rfl) d_Re_toUltimate_37 (fun ws1 H locs hw hp => ?_)
      rw [hp] at hw
      clear hp
      refine lv_iconst (v := 1) hx hb d_Re_toUltimate_40 (by decide) ?_
      refine lv_isub hx hb d_Re_toUltimate_41 ?_
      refine lv_iload_n hx hb d_Re_toUltimate_42 rfl (lv_at hl 2 rfl) ?_
      refine lv_isub hx hb d_Re_toUltimate_43 ?_
      refine lv_aload_n hx hb d_Re_toUltimate_44 rfl (lv_at hl 0 rfl) ?_
      refine gf_Re_12 C0 hw hR d_Re_toUltimate_45 ?_
      obtain ⟨x2, ho, h⟩ := ct_ob_some h
      refine ct_callVi C0 hw hl.1 (q0 := 2) (hR.1 2 (by decide)) rfl (ct_giV wd_471 wd_424 wd_425 wd_4 wd_426) (fun sz => s_Tr_shown l g ws sz hR.rf ho) (nA := 0) (rm := rm_Tr_shown) (by decide +kernel) rfl ⟨rfl, rfl⟩ (by decide) (by decide) (As := []) (rest := [.int ((x1 - 1) - a2), .ref (g.2.1 4)]) rfl (Nat.le_of_ble_eq_true rfl) d_Re_toUltimate_48 (fun ws1 H locs hw hp => ?_)
      rw [hp] at hw
      clear hp
      refine lv_iconst (v := 2) hx hb d_Re_toUltimate_51 (by decide) ?_
      refine lv_isub hx hb d_Re_toUltimate_52 ?_
      obtain ⟨s3, ho, h⟩ := ct_ob_some h
      refine ct_callVv C0 hw hl.1 (q0 := 4) (hR.1 4 (by decide)) rfl (ct_giV wd_571 wd_573 sel_Re_chain wd_3 wd_574) (fun sz => s_Re_chain l g ws sz hR.rf ho) (nA := 2) (rm := rm_Re_chain) (by decide +kernel) rfl ⟨rfl, rfl⟩ (by decide) (by decide) (As := [.int ((x1 - 1) - a2), .int (x2 - 2)]) (rest := []) rfl (Nat.le_of_ble_eq_true rfl) d_Re_toUltimate_53 (fun ws1 H locs hw hp => ?_)
      have hR := hR.trans hp
      clear hp
      generalize ws1 = ws at hw hR
      refine lv_aload_n hx hb d_Re_toUltimate_56 rfl (lv_at hl 0 rfl) ?_
      refine gf_Re_34 C0 hw hR d_Re_toUltimate_57 ?_
      refine lv_aload_n hx hb d_Re_toUltimate_60 rfl (lv_at hl 0 rfl) ?_
      refine gf_Re_21 C0 hw hR d_Re_toUltimate_61 ?_
      refine gf_Re_82 C0 hw hR d_Re_toUltimate_64 ?_
      obtain ⟨s4, ho, h⟩ := ct_ob_some h
      refine ct_callVv C0 hw hl.1 (hR.F (f := 8) (by decide)) rfl (ct_giV wd_560 wd_561 wd_562 wd_6 wd_563) (fun sz => s_Fr_times l g ws sz hR.rf (by decide) (by decide) ho) (nA := 1) (rm := rm_Fr_times) (by decide +kernel) rfl ⟨rfl, rfl⟩ (by decide) (by decide) (As := [.ref (g.2.1 25)]) (rest := []) rfl (Nat.le_of_ble_eq_true rfl) d_Re_toUltimate_67 (fun ws1 H locs hw hp => ?_)
      have hR := hR.trans hp
      clear hp
      generalize ws1 = ws at hw hR
      refine lv_iload_n hx hb d_Re_toUltimate_70 rfl (lv_at hl 1 rfl) ?_
      refine lv_iconst (v := 3) hx hb d_Re_toUltimate_71 (by decide) ?_
      refine lv_icmp_ne hx hb (tgt := 83) d_Re_toUltimate_72 (by decide) (fun hc9 => ?_) (fun hc9 => ?_)
      · rw [if_pos hc9] at h
        refine lv_aload_n hx hb d_Re_toUltimate_83 rfl (lv_at hl 0 rfl) ?_
        refine gf_Re_34 C0 hw hR d_Re_toUltimate_84 ?_
        refine lv_aload_n hx hb d_Re_toUltimate_87 rfl (lv_at hl 0 rfl) ?_
        refine lv_aload_n hx hb d_Re_toUltimate_88 rfl (lv_at hl 0 rfl) ?_
        refine gf_Re_12 C0 hw hR d_Re_toUltimate_89 ?_
        refine lv_iload_n hx hb d_Re_toUltimate_92 rfl (lv_at hl 2 rfl) ?_
        obtain ⟨x5, ho, h⟩ := ct_ob_some h
        refine ct_callVi C0 hw hl.1 (q0 := 2) (hR.1 2 (by decide)) rfl (ct_giV wd_596 wd_597 wd_598 wd_4 wd_599) (fun sz => s_Tr_latestOf l g ws sz hR.rf ho) (nA := 1) (rm := rm_Tr_latestOf) (by decide +kernel) rfl ⟨rfl, rfl⟩ (by decide) (by decide) (As := [.int a2]) (rest := [.ref (g.2.1 4), .ref (g.2.1 31)]) rfl (Nat.le_of_ble_eq_true rfl) d_Re_toUltimate_93 (fun ws1 H locs hw hp => ?_)
        rw [hp] at hw
        clear hp
        refine lv_i2l hx hb d_Re_toUltimate_96 rfl ?_
        obtain ⟨x6, s7, ho, h⟩ := ct_ob2_some h
        refine ct_callVr C0 hw hl.1 (q0 := 4) (hR.1 4 (by decide)) rfl (ct_giV wd_587 wd_589 sel_Re_asWhole wd_3 wd_590) (fun sz => s_Re_asWhole l g ws sz hR.rf ho) (nA := 1) (rm := rm_Re_asWhole) (by decide +kernel) rfl ⟨rfl, rfl⟩ (by decide) (by decide) (As := [.long x5.toInt64]) (rest := [.ref (g.2.1 31)]) rfl (Nat.le_of_ble_eq_true rfl) d_Re_toUltimate_97 (fun ws1 H locs hw hp => ?_)
        have hR := hR.trans hp
        clear hp
        generalize ws1 = ws at hw hR
        have hx6 : x6 < 12 := lt_Re_asWhole ho
        obtain ⟨s8, ho, h⟩ := ct_ob_some h
        refine ct_callVv C0 hw hl.1 (hR.F (f := 8) (by decide)) rfl (ct_giV wd_560 wd_561 wd_562 wd_6 wd_563) (fun sz => s_Fr_times l g ws sz hR.rf (by decide) hx6 ho) (nA := 1) (rm := rm_Fr_times) (by decide +kernel) rfl ⟨rfl, rfl⟩ (by decide) (by decide) (As := [.ref (g.2.1 (23 + x6))]) (rest := []) rfl (Nat.le_of_ble_eq_true rfl) d_Re_toUltimate_100 (fun ws1 H locs hw hp => ?_)
        have hR := hR.trans hp
        clear hp
        generalize ws1 = ws at hw hR
        obtain rfl := Option.some.inj h
        exact hret hw hR d_Re_toUltimate_103
      · rw [if_neg (fun q => q hc9)] at h
        refine lv_aload_n hx hb d_Re_toUltimate_75 rfl (lv_at hl 0 rfl) ?_
        refine lv_iload_n hx hb d_Re_toUltimate_76 rfl (lv_at hl 2 rfl) ?_
        obtain ⟨s9, ho, h⟩ := ct_ob_some h
        refine ct_callVv C0 hw hl.1 (q0 := 4) (hR.1 4 (by decide)) rfl (ct_giV wd_575 wd_577 sel_Re_blend wd_3 wd_578) (fun sz => s_Re_blend l g ws sz hR.rf ho) (nA := 1) (rm := rm_Re_blend) (by decide +kernel) rfl ⟨rfl, rfl⟩ (by decide) (by decide) (As := [.int a2]) (rest := []) rfl (Nat.le_of_ble_eq_true rfl) d_Re_toUltimate_77 (fun ws1 H locs hw hp => ?_)
        have hR := hR.trans hp
        clear hp
        generalize ws1 = ws at hw hR
        refine lv_goto hx hb (tgt := 103) d_Re_toUltimate_80 (by decide) ?_
        obtain rfl := Option.some.inj h
        exact hret hw hR d_Re_toUltimate_103
    · rw [if_neg (fun q => q hc9)] at h
      refine lv_aload_n hx hb d_Re_toUltimate_20 rfl (lv_at hl 0 rfl) ?_
      refine gf_Re_34 C0 hw hR d_Re_toUltimate_21 ?_
      refine lv_aload_n hx hb d_Re_toUltimate_24 rfl (lv_at hl 0 rfl) ?_
      refine gf_Re_41 C0 hw hR d_Re_toUltimate_25 ?_
      obtain ⟨s10, ho, h⟩ := ct_ob_some h
      refine ct_callVv C0 hw hl.1 (hR.F (f := 8) (by decide)) rfl (ct_giV wd_485 wd_486 wd_487 wd_6 wd_488) (fun sz => s_Fr_copy l g ws sz hR.rf (by decide) (by decide) ho) (nA := 1) (rm := rm_Fr_copy) (by decide +kernel) rfl ⟨rfl, rfl⟩ (by decide) (by decide) (As := [.ref (g.2.1 33)]) (rest := []) rfl (Nat.le_of_ble_eq_true rfl) d_Re_toUltimate_28 (fun ws1 H locs hw hp => ?_)
      have hR := hR.trans hp
      clear hp
      generalize ws1 = ws at hw hR
      obtain rfl := Option.some.inj h
      exact hret hw hR d_Re_toUltimate_31
  have J10 : ∀ (ws : va_W) (H : Heap) (locs : List Loc) (ls : Array Slot) (s : CS), ct_Wd g A sv ws H locs → cs_Rel g ws0 ws s → lv_has ls 3 [(0, .ref (g.2.1 4)), (1, .int a1), (2, .int a2)] → bk_Re_toUltimate_10 a1 a2 s = some res → W p l e rm_Re_toUltimate sv m args below meth c H locs 0 0 Q (F0 m 10 ls []) := by
    intro ws H locs ls s hw hR hl h
    unfold bk_Re_toUltimate_10 at h
    refine lv_aload_n hx hb d_Re_toUltimate_10 rfl (lv_at hl 0 rfl) ?_
    refine lv_iload_n hx hb d_Re_toUltimate_11 rfl (lv_at hl 2 rfl) ?_
    obtain ⟨s11, ho, h⟩ := ct_ob_some h
    refine ct_callVv C0 hw hl.1 (q0 := 4) (hR.1 4 (by decide)) rfl (ct_giV wd_547 wd_549 sel_Re_expect wd_3 wd_550) (fun sz => s_Re_expect l g ws sz hR.rf ho) (nA := 1) (rm := rm_Re_expect) (by decide +kernel) rfl ⟨rfl, rfl⟩ (by decide) (by decide) (As := [.int a2]) (rest := []) rfl (Nat.le_of_ble_eq_true rfl) d_Re_toUltimate_12 (fun ws1 H locs hw hp => ?_)
    have hR := hR.trans hp
    clear hp
    generalize ws1 = ws at hw hR
    exact J15 ws H locs ls s11 hw hR (lv_sub hl [0, 1, 2] rfl) h
  unfold fn_Re_toUltimate at h
  obtain ⟨ws, hwe⟩ : ∃ z : va_W, z = ws0 := ⟨_, rfl⟩
  rw [← hwe] at hw
  have hR : cs_Rel g ws0 ws s := by rw [hwe]; exact hR
  clear hwe
  refine lv_iload_n hx hb d_Re_toUltimate_0 rfl (lv_at hl 1 rfl) ?_
  refine lv_iconst (v := 2) hx hb d_Re_toUltimate_1 (by decide) ?_
  refine lv_icmp_eq hx hb (tgt := 10) d_Re_toUltimate_2 (by decide) (fun hc9 => ?_) (fun hc9 => ?_)
  · rw [if_pos hc9] at h
    exact J10 ws H locs ls s hw hR (lv_sub hl [0, 1, 2] rfl) h
  · rw [if_neg hc9] at h
    refine lv_iload_n hx hb d_Re_toUltimate_5 rfl (lv_at hl 1 rfl) ?_
    refine lv_iconst (v := 3) hx hb d_Re_toUltimate_6 (by decide) ?_
    refine lv_icmp_ne hx hb (tgt := 15) d_Re_toUltimate_7 (by decide) (fun hc9 => ?_) (fun hc9 => ?_)
    · rw [if_pos hc9] at h
      exact J15 ws H locs ls s hw hR (lv_sub hl [0, 1, 2] rfl) h
    · rw [if_neg (fun q => q hc9)] at h
      exact J10 ws H locs ls s hw hR (lv_sub hl [0, 1, 2] rfl) h

