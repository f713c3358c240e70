theorem d_Mo_workReserve_0 : decode c_Mo_workReserve 0 = .ok (.aload_n 0, 1) := by decide +kernel
theorem d_Mo_workReserve_1 : decode c_Mo_workReserve 1 = .ok (.iload_n 1, 1) := by decide +kernel
theorem d_Mo_workReserve_2 : decode c_Mo_workReserve 2 = .ok (.iload_n 2, 1) := by decide +kernel
theorem d_Mo_workReserve_3 : decode c_Mo_workReserve 3 = .ok (.invokevirtual 176, 3) := by decide +kernel
theorem d_Mo_workReserve_6 : decode c_Mo_workReserve 6 = .ok (.istore_n 3, 1) := by decide +kernel
theorem d_Mo_workReserve_7 : decode c_Mo_workReserve 7 = .ok (.iload_n 3, 1) := by decide +kernel
theorem d_Mo_workReserve_8 : decode c_Mo_workReserve 8 = .ok (.ifCond .eq 5, 3) := by decide +kernel
theorem d_Mo_workReserve_11 : decode c_Mo_workReserve 11 = .ok (.iload_n 3, 1) := by decide +kernel
theorem d_Mo_workReserve_12 : decode c_Mo_workReserve 12 = .ok (.ireturn, 1) := by decide +kernel
theorem d_Mo_workReserve_13 : decode c_Mo_workReserve 13 = .ok (.aload_n 0, 1) := by decide +kernel
theorem d_Mo_workReserve_14 : decode c_Mo_workReserve 14 = .ok (.aload_n 0, 1) := by decide +kernel
theorem d_Mo_workReserve_15 : decode c_Mo_workReserve 15 = .ok (.iload_n 2, 1) := by decide +kernel
theorem d_Mo_workReserve_16 : decode c_Mo_workReserve 16 = .ok (.invokevirtual 166, 3) := by decide +kernel
theorem d_Mo_workReserve_19 : decode c_Mo_workReserve 19 = .ok (.ineg, 1) := by decide +kernel
theorem d_Mo_workReserve_20 : decode c_Mo_workReserve 20 = .ok (.i2l, 1) := by decide +kernel
theorem d_Mo_workReserve_21 : decode c_Mo_workReserve 21 = .ok (.lconst 1, 1) := by decide +kernel
theorem d_Mo_workReserve_22 : decode c_Mo_workReserve 22 = .ok (.invokevirtual 173, 3) := by decide +kernel
theorem d_Mo_workReserve_25 : decode c_Mo_workReserve 25 = .ok (.aload_n 0, 1) := by decide +kernel
theorem d_Mo_workReserve_26 : decode c_Mo_workReserve 26 = .ok (.invokevirtual 156, 3) := by decide +kernel
theorem d_Mo_workReserve_29 : decode c_Mo_workReserve 29 = .ok (.ireturn, 1) := by decide +kernel
set_option maxHeartbeats 4000000 in
set_option maxRecDepth 100000 in
theorem s_Mo_workReserve (l : Launch) (g : Gx) (ws0 : va_W) (sz : Nat) {s : MS} {a1 : Int32} {a2 : Int32} {res : (Int32 × MS)} (hR : ms_Rel g ws0 ws0 s) (h : fn_Mo_workReserve s a1 a2 = some res) : ct_MI l y_Mo_workReserve c_Mo_workReserve 4 (some .int) rm_Mo_workReserve g ws0 sz [.ref (g.2.1 35), .int a1, .int a2] res.1 (fun u => ms_Rel g ws0 u res.2) := by
  refine ct_starti (by decide +kernel) (Nat.le_of_ble_eq_true rfl) (fun p e sv m args below meth c ls Q A H locs C0 hret hl hw => ?_)
  have hx := C0.1
  have hb := C0.2.1
  have hown := C0.2.2.2.1
  have hts := C0.2.2.2.2.1
  have hl : lv_has ls 4 [(0, .ref (g.2.1 35)), (1, .int a1), (2, .int a2)] := hl
  unfold fn_Mo_workReserve at h
  obtain ⟨ws, hwe⟩ : ∃ z : va_W, z = ws0 := ⟨_, rfl⟩
  rw [← hwe] at hw
  have hR : ms_Rel g ws0 ws s := by rw [hwe]; exact hR
  clear hwe
  refine lv_aload_n hx hb d_Mo_workReserve_0 rfl (lv_at hl 0 rfl) ?_
  refine lv_iload_n hx hb d_Mo_workReserve_1 rfl (lv_at hl 1 rfl) ?_
  refine lv_iload_n hx hb d_Mo_workReserve_2 rfl (lv_at hl 2 rfl) ?_
  obtain ⟨x1, s2, ho, h⟩ := ct_ob2_some h
  refine ct_callVi C0 hw hl.1 (q0 := 35) (hR.1 35 (by decide) (by decide)) rfl (ct_giV wd_910 wd_912 sel_Mo_work wd_7 wd_913) (fun sz => s_Mo_work l g ws sz hR.rf ho) (nA := 2) (rm := rm_Mo_work) (by decide +kernel) rfl ⟨rfl, rfl⟩ (by decide) (by decide) (As := [.int a1, .int a2]) (rest := []) rfl (Nat.le_of_ble_eq_true rfl) d_Mo_workReserve_3 (fun ws1 H locs hw hp => ?_)
  have hR := hR.trans hp
  clear hp
  generalize ws1 = ws at hw hR
  refine lv_istore_n (lv' := [(3, .int x1), (0, .ref (g.2.1 35)), (1, .int a1), (2, .int a2)]) hx hb d_Mo_workReserve_6 rfl hl (by decide) rfl (fun ls hl => ?_)
  refine lv_iload_n hx hb d_Mo_workReserve_7 rfl (lv_at hl 0 rfl) ?_
  refine lv_if_eq hx hb (tgt := 13) d_Mo_workReserve_8 (by decide) (fun hc9 => ?_) (fun hc9 => ?_)
  · rw [if_pos hc9] at h
    refine lv_aload_n hx hb d_Mo_workReserve_13 rfl (lv_at hl 1 rfl) ?_
    refine lv_aload_n hx hb d_Mo_workReserve_14 rfl (lv_at hl 1 rfl) ?_
    refine lv_iload_n hx hb d_Mo_workReserve_15 rfl (lv_at hl 3 rfl) ?_
    obtain ⟨x3, ho, h⟩ := ct_ob_some h
    refine ct_callVi C0 hw hl.1 (q0 := 35) (hR.1 35 (by decide) (by decide)) rfl (ct_giV wd_939 wd_941 sel_Mo_latestOf wd_7 wd_942) (fun sz => s_Mo_latestOf l g ws sz hR.rf ho) (nA := 1) (rm := rm_Mo_latestOf) (by decide +kernel) rfl ⟨rfl, rfl⟩ (by decide) (by decide) (As := [.int a2]) (rest := [.ref (g.2.1 35)]) rfl (Nat.le_of_ble_eq_true rfl) d_Mo_workReserve_16 (fun ws1 H locs hw hp => ?_)
    rw [hp] at hw
    clear hp
    refine lv_ineg hx hb d_Mo_workReserve_19 ?_
    refine lv_i2l hx hb d_Mo_workReserve_20 rfl ?_
    refine lv_lconst (v := 1) hx hb d_Mo_workReserve_21 (by decide) ?_
    obtain ⟨s4, ho, h⟩ := ct_ob_some h
    refine ct_callVv C0 hw hl.1 (q0 := 35) (hR.1 35 (by decide) (by decide)) rfl (ct_giV wd_947 wd_949 sel_Mo_plus wd_7 wd_950) (fun sz => s_Mo_plus l g ws sz hR.rf ho) (nA := 2) (rm := rm_Mo_plus) (by decide +kernel) rfl ⟨rfl, rfl⟩ (by decide) (by decide) (As := [.long ((-x3).toInt64), .long 1]) (rest := []) rfl (Nat.le_of_ble_eq_true rfl) d_Mo_workReserve_22 (fun ws1 H locs hw hp => ?_)
    have hR := hR.trans hp
    clear hp
    generalize ws1 = ws at hw hR
    refine lv_aload_n hx hb d_Mo_workReserve_25 rfl (lv_at hl 1 rfl) ?_
    obtain ⟨x5, ho, h⟩ := ct_ob_some h
    refine ct_callVi C0 hw hl.1 (q0 := 35) (hR.1 35 (by decide) (by decide)) rfl (ct_giV wd_927 wd_929 sel_Mo_answer wd_7 wd_930) (fun sz => s_Mo_answer l g ws sz hR.rf ho) (nA := 0) (rm := rm_Mo_answer) (by decide +kernel) rfl ⟨rfl, rfl⟩ (by decide) (by decide) (As := []) (rest := []) rfl (Nat.le_of_ble_eq_true rfl) d_Mo_workReserve_26 (fun ws1 H locs hw hp => ?_)
    rw [hp] at hw
    clear hp
    obtain rfl := Option.some.inj h
    exact hret hw hR d_Mo_workReserve_29
  · rw [if_neg hc9] at h
    refine lv_iload_n hx hb d_Mo_workReserve_11 rfl (lv_at hl 0 rfl) ?_
    obtain rfl := Option.some.inj h
    exact hret hw hR d_Mo_workReserve_12

theorem d_Mo_told_0 : decode c_Mo_told 0 = .ok (.aload_n 0, 1) := by decide +kernel
theorem d_Mo_told_1 : decode c_Mo_told 1 = .ok (.iload_n 1, 1) := by decide +kernel
theorem d_Mo_told_2 : decode c_Mo_told 2 = .ok (.putfield 55, 3) := by decide +kernel
theorem d_Mo_told_5 : decode c_Mo_told 5 = .ok (.iload_n 1, 1) := by decide +kernel
theorem d_Mo_told_6 : decode c_Mo_told 6 = .ok (.ifCond .eq 7, 3) := by decide +kernel
theorem d_Mo_told_9 : decode c_Mo_told 9 = .ok (.lconst 0, 1) := by decide +kernel
theorem d_Mo_told_10 : decode c_Mo_told 10 = .ok (.goto 18, 3) := by decide +kernel
theorem d_Mo_told_13 : decode c_Mo_told 13 = .ok (.iload_n 2, 1) := by decide +kernel
theorem d_Mo_told_14 : decode c_Mo_told 14 = .ok (.ifCond .eq 10, 3) := by decide +kernel
theorem d_Mo_told_17 : decode c_Mo_told 17 = .ok (.aload_n 0, 1) := by decide +kernel
theorem d_Mo_told_18 : decode c_Mo_told 18 = .ok (.getfield 118, 3) := by decide +kernel
theorem d_Mo_told_21 : decode c_Mo_told 21 = .ok (.goto 7, 3) := by decide +kernel
theorem d_Mo_told_24 : decode c_Mo_told 24 = .ok (.aload_n 0, 1) := by decide +kernel
theorem d_Mo_told_25 : decode c_Mo_told 25 = .ok (.getfield 114, 3) := by decide +kernel
theorem d_Mo_told_28 : decode c_Mo_told 28 = .ok (.lreturn, 1) := by decide +kernel
set_option maxHeartbeats 4000000 in
set_option maxRecDepth 100000 in
theorem s_Mo_told (l : Launch) (g : Gx) (ws0 : va_W) (sz : Nat) {s : MS} {a1 : Int32} {a2 : Int32} {res : (Int64 × MS)} (hR : ms_Rel g ws0 ws0 s) (h : fn_Mo_told s a1 a2 = some res) : ct_ML l y_Mo_told c_Mo_told 3 (some .long) rm_Mo_told g ws0 sz [.ref (g.2.1 35), .int a1, .int a2] res.1 (fun u => ms_Rel g ws0 u res.2) := by
  refine ct_startl (by decide +kernel) (Nat.le_of_ble_eq_true rfl) (fun p e sv m args below meth c ls Q A H locs C0 hret hl hw => ?_)
  have hx := C0.1
  have hb := C0.2.1
  have hown := C0.2.2.2.1
  have hts := C0.2.2.2.2.1
  have hl : lv_has ls 3 [(0, .ref (g.2.1 35)), (1, .int a1), (2, .int a2)] := hl
  unfold fn_Mo_told at h
  obtain ⟨ws, hwe⟩ : ∃ z : va_W, z = ws0 := ⟨_, rfl⟩
  rw [← hwe] at hw
  have hR : ms_Rel g ws0 ws s := by rw [hwe]; exact hR
  clear hwe
  refine lv_aload_n hx hb d_Mo_told_0 rfl (lv_at hl 0 rfl) ?_
  refine lv_iload_n hx hb d_Mo_told_1 rfl (lv_at hl 1 rfl) ?_
  refine pf_Mo_55 C0 hw hR d_Mo_told_2 (fun ws H locs hw hR => ?_)
  obtain ⟨s1, es9, h⟩ := ct_nm_ex h
  rw [← es9] at hR
  clear es9
  refine lv_iload_n hx hb d_Mo_told_5 rfl (lv_at hl 1 rfl) ?_
  refine lv_if_eq hx hb (tgt := 13) d_Mo_told_6 (by decide) (fun hc9 => ?_) (fun hc9 => ?_)
  · rw [if_pos hc9] at h
    refine lv_iload_n hx hb d_Mo_told_13 rfl (lv_at hl 2 rfl) ?_
    refine lv_if_eq hx hb (tgt := 24) d_Mo_told_14 (by decide) (fun hc9 => ?_) (fun hc9 => ?_)
    · rw [if_pos hc9] at h
      refine lv_aload_n hx hb d_Mo_told_24 rfl (lv_at hl 0 rfl) ?_
      refine gf_Mo_114 C0 hw hR d_Mo_told_25 ?_
      obtain rfl := Option.some.inj h
      exact hret hw hR d_Mo_told_28
    · rw [if_neg hc9] at h
      refine lv_aload_n hx hb d_Mo_told_17 rfl (lv_at hl 0 rfl) ?_
      refine gf_Mo_118 C0 hw hR d_Mo_told_18 ?_
      refine lv_goto hx hb (tgt := 28) d_Mo_told_21 (by decide) ?_
      obtain rfl := Option.some.inj h
      exact hret hw hR d_Mo_told_28
  · rw [if_neg hc9] at h
    refine lv_lconst (v := 0) hx hb d_Mo_told_9 (by decide) ?_
    refine lv_goto hx hb (tgt := 28) d_Mo_told_10 (by decide) ?_
    obtain rfl := Option.some.inj h
    exact hret hw hR d_Mo_told_28

theorem d_Mo_factor_0 : decode c_Mo_factor 0 = .ok (.aload_n 0, 1) := by decide +kernel
theorem d_Mo_factor_1 : decode c_Mo_factor 1 = .ok (.iload_n 1, 1) := by decide +kernel
theorem d_Mo_factor_2 : decode c_Mo_factor 2 = .ok (.ifCond .lt 22, 3) := by decide +kernel
theorem d_Mo_factor_5 : decode c_Mo_factor 5 = .ok (.iload_n 1, 1) := by decide +kernel
theorem d_Mo_factor_6 : decode c_Mo_factor 6 = .ok (.iconst 1, 1) := by decide +kernel
theorem d_Mo_factor_7 : decode c_Mo_factor 7 = .ok (.if_icmp .gt 17, 3) := by decide +kernel
theorem d_Mo_factor_10 : decode c_Mo_factor 10 = .ok (.iload_n 2, 1) := by decide +kernel
theorem d_Mo_factor_11 : decode c_Mo_factor 11 = .ok (.ifCond .lt 13, 3) := by decide +kernel
theorem d_Mo_factor_14 : decode c_Mo_factor 14 = .ok (.iload_n 2, 1) := by decide +kernel
theorem d_Mo_factor_15 : decode c_Mo_factor 15 = .ok (.aload_n 0, 1) := by decide +kernel
theorem d_Mo_factor_16 : decode c_Mo_factor 16 = .ok (.invokevirtual 100, 3) := by decide +kernel
theorem d_Mo_factor_19 : decode c_Mo_factor 19 = .ok (.iconst 2, 1) := by decide +kernel
theorem d_Mo_factor_20 : decode c_Mo_factor 20 = .ok (.isub, 1) := by decide +kernel
theorem d_Mo_factor_21 : decode c_Mo_factor 21 = .ok (.if_icmp .le 7, 3) := by decide +kernel
theorem d_Mo_factor_24 : decode c_Mo_factor 24 = .ok (.iconst 1, 1) := by decide +kernel
theorem d_Mo_factor_25 : decode c_Mo_factor 25 = .ok (.goto 4, 3) := by decide +kernel
theorem d_Mo_factor_28 : decode c_Mo_factor 28 = .ok (.iconst 0, 1) := by decide +kernel
theorem d_Mo_factor_29 : decode c_Mo_factor 29 = .ok (.putfield 55, 3) := by decide +kernel
theorem d_Mo_factor_32 : decode c_Mo_factor 32 = .ok (.aload_n 0, 1) := by decide +kernel
theorem d_Mo_factor_33 : decode c_Mo_factor 33 = .ok (.getfield 55, 3) := by decide +kernel
theorem d_Mo_factor_36 : decode c_Mo_factor 36 = .ok (.ifCond .eq 5, 3) := by decide +kernel
theorem d_Mo_factor_39 : decode c_Mo_factor 39 = .ok (.lconst 0, 1) := by decide +kernel
theorem d_Mo_factor_40 : decode c_Mo_factor 40 = .ok (.lreturn, 1) := by decide +kernel
theorem d_Mo_factor_41 : decode c_Mo_factor 41 = .ok (.aload_n 0, 1) := by decide +kernel
theorem d_Mo_factor_42 : decode c_Mo_factor 42 = .ok (.invokevirtual 179, 3) := by decide +kernel
theorem d_Mo_factor_45 : decode c_Mo_factor 45 = .ok (.aload_n 0, 1) := by decide +kernel
theorem d_Mo_factor_46 : decode c_Mo_factor 46 = .ok (.iload_n 1, 1) := by decide +kernel
theorem d_Mo_factor_47 : decode c_Mo_factor 47 = .ok (.iload_n 2, 1) := by decide +kernel
theorem d_Mo_factor_48 : decode c_Mo_factor 48 = .ok (.invokevirtual 140, 3) := by decide +kernel
theorem d_Mo_factor_51 : decode c_Mo_factor 51 = .ok (.istore 4, 2) := by decide +kernel
theorem d_Mo_factor_53 : decode c_Mo_factor 53 = .ok (.aload_n 0, 1) := by decide +kernel
theorem d_Mo_factor_54 : decode c_Mo_factor 54 = .ok (.aload_n 0, 1) := by decide +kernel
theorem d_Mo_factor_55 : decode c_Mo_factor 55 = .ok (.getfield 134, 3) := by decide +kernel
theorem d_Mo_factor_58 : decode c_Mo_factor 58 = .ok (.aload_n 0, 1) := by decide +kernel
theorem d_Mo_factor_59 : decode c_Mo_factor 59 = .ok (.getfield 137, 3) := by decide +kernel
theorem d_Mo_factor_62 : decode c_Mo_factor 62 = .ok (.invokevirtual 125, 3) := by decide +kernel
theorem d_Mo_factor_65 : decode c_Mo_factor 65 = .ok (.aload_n 0, 1) := by decide +kernel
theorem d_Mo_factor_66 : decode c_Mo_factor 66 = .ok (.iload 4, 2) := by decide +kernel
theorem d_Mo_factor_68 : decode c_Mo_factor 68 = .ok (.ifCond .eq 7, 3) := by decide +kernel
theorem d_Mo_factor_71 : decode c_Mo_factor 71 = .ok (.iconst 0, 1) := by decide +kernel
theorem d_Mo_factor_72 : decode c_Mo_factor 72 = .ok (.goto 4, 3) := by decide +kernel
theorem d_Mo_factor_75 : decode c_Mo_factor 75 = .ok (.iconst 2, 1) := by decide +kernel
theorem d_Mo_factor_76 : decode c_Mo_factor 76 = .ok (.iload_n 3, 1) := by decide +kernel
theorem d_Mo_factor_77 : decode c_Mo_factor 77 = .ok (.invokevirtual 182, 3) := by decide +kernel
theorem d_Mo_factor_80 : decode c_Mo_factor 80 = .ok (.lreturn, 1) := by decide +kernel
set_option maxHeartbeats 4000000 in
set_option maxRecDepth 100000 in
theorem s_Mo_factor (l : Launch) (g : Gx) (ws0 : va_W) (sz : Nat) {s : MS} {a1 : Int32} {a2 : Int32} {a3 : Int32} {res : (Int64 × MS)} (hR : ms_Rel g ws0 ws0 s) (h : fn_Mo_factor s a1 a2 a3 = some res) : ct_ML l y_Mo_factor c_Mo_factor 5 (some .long) rm_Mo_factor g ws0 sz [.ref (g.2.1 35), .int a1, .int a2, .int a3] res.1 (fun u => ms_Rel g ws0 u res.2) := by
  refine ct_startl (by decide +kernel) (Nat.le_of_ble_eq_true rfl) (fun p e sv m args below meth c ls Q A H locs C0 hret hl hw => ?_)
  have hx := C0.1
  have hb := C0.2.1
  have hown := C0.2.2.2.1
  have hts := C0.2.2.2.2.1
  have hl : lv_has ls 5 [(0, .ref (g.2.1 35)), (1, .int a1), (2, .int a2), (3, .int a3)] := hl
  have J76 : ∀ (ws : va_W) (H : Heap) (locs : List Loc) (ls : Array Slot) (s : MS) (t1 : Int32), ct_Wd g A sv ws H locs → ms_Rel g ws0 ws s → lv_has ls 5 [(3, .int a3)] → bk_Mo_factor_76 a1 a2 a3 s t1 = some res → W p l e rm_Mo_factor sv m args below meth c H locs 0 0 Q (F0 m 76 ls [.int t1, .ref (g.2.1 35)]) := by
    intro ws H locs ls s t1 hw hR hl h
    unfold bk_Mo_factor_76 at h
    refine lv_iload_n hx hb d_Mo_factor_76 rfl (lv_at hl 0 rfl) ?_
    obtain ⟨x1, s2, ho, h⟩ := ct_ob2_some h
    refine ct_callVl C0 hw hl.1 (q0 := 35) (hR.1 35 (by decide) (by decide)) rfl (ct_giV wd_898 wd_900 sel_Mo_told wd_7 wd_901) (fun sz => s_Mo_told l g ws sz hR.rf ho) (nA := 2) (rm := rm_Mo_told) (by decide +kernel) rfl ⟨rfl, rfl⟩ (by decide) (by decide) (As := [.int t1, .int a3]) (rest := []) rfl (Nat.le_of_ble_eq_true rfl) d_Mo_factor_77 (fun ws1 H locs hw hp => ?_)
    have hR := hR.trans hp
    clear hp
    generalize ws1 = ws at hw hR
    obtain rfl := Option.some.inj h
    exact hret hw hR d_Mo_factor_80
  have J29 : ∀ (ws : va_W) (H : Heap) (locs : List Loc) (ls : Array Slot) (s : MS) (t1 : Int32), ct_Wd g A sv ws H locs → ms_Rel g ws0 ws s → lv_has ls 5 [(0, .ref (g.2.1 35)), (1, .int a1), (2, .int a2), (3, .int a3)] → bk_Mo_factor_29 a1 a2 a3 s t1 = some res → W p l e rm_Mo_factor sv m args below meth c H locs 0 0 Q (F0 m 29 ls [.int t1, .ref (g.2.1 35)]) := by
    intro ws H locs ls s t1 hw hR hl h
    unfold bk_Mo_factor_29 at h
    refine pf_Mo_55 C0 hw hR d_Mo_factor_29 (fun ws H locs hw hR => ?_)
    obtain ⟨s3, es9, h⟩ := ct_nm_ex h
    rw [← es9] at hR
    clear es9
    refine lv_aload_n hx hb d_Mo_factor_32 rfl (lv_at hl 0 rfl) ?_
    refine gf_Mo_55 C0 hw hR d_Mo_factor_33 ?_
    refine lv_if_eq hx hb (tgt := 41) d_Mo_factor_36 (by decide) (fun hc9 => ?_) (fun hc9 => ?_)
    · rw [if_pos hc9] at h
      refine lv_aload_n hx hb d_Mo_factor_41 rfl (lv_at hl 0 rfl) ?_
      obtain ⟨s4, ho, h⟩ := ct_ob_some h
      refine ct_callVv C0 hw hl.1 (q0 := 35) (hR.1 35 (by decide) (by decide)) rfl (ct_giV wd_878 wd_880 sel_Mo_look wd_7 wd_881) (fun sz => s_Mo_look l g ws sz hR.rf ho) (nA := 0) (rm := rm_Mo_look) (by decide +kernel) rfl ⟨rfl, rfl⟩ (by decide) (by decide) (As := []) (rest := []) rfl (Nat.le_of_ble_eq_true rfl) d_Mo_factor_42 (fun ws1 H locs hw hp => ?_)
      have hR := hR.trans hp
      clear hp
      generalize ws1 = ws at hw hR
      refine lv_aload_n hx hb d_Mo_factor_45 rfl (lv_at hl 0 rfl) ?_
      refine lv_iload_n hx hb d_Mo_factor_46 rfl (lv_at hl 1 rfl) ?_
      refine lv_iload_n hx hb d_Mo_factor_47 rfl (lv_at hl 2 rfl) ?_
      obtain ⟨x5, s6, ho, h⟩ := ct_ob2_some h
      refine ct_callVi C0 hw hl.1 (q0 := 35) (hR.1 35 (by decide) (by decide)) rfl (ct_giV wd_882 wd_884 sel_Mo_find wd_7 wd_885) (fun sz => s_Mo_find l g ws sz hR.rf ho) (nA := 2) (rm := rm_Mo_find) (by decide +kernel) rfl ⟨rfl, rfl⟩ (by decide) (by decide) (As := [.int a1, .int a2]) (rest := []) rfl (Nat.le_of_ble_eq_true rfl) d_Mo_factor_48 (fun ws1 H locs hw hp => ?_)
      have hR := hR.trans hp
      clear hp
      generalize ws1 = ws at hw hR
      refine lv_istore (lv' := [(4, .int x5), (0, .ref (g.2.1 35)), (1, .int a1), (2, .int a2), (3, .int a3)]) hx hb d_Mo_factor_51 hl (by decide) rfl (fun ls hl => ?_)
      refine lv_aload_n hx hb d_Mo_factor_53 rfl (lv_at hl 1 rfl) ?_
      refine lv_aload_n hx hb d_Mo_factor_54 rfl (lv_at hl 1 rfl) ?_
      refine gf_Mo_134 C0 hw hR d_Mo_factor_55 ?_
      refine lv_aload_n hx hb d_Mo_factor_58 rfl (lv_at hl 1 rfl) ?_
      refine gf_Mo_137 C0 hw hR d_Mo_factor_59 ?_
      obtain ⟨s7, ho, h⟩ := ct_ob_some h
      refine ct_callVv C0 hw hl.1 (q0 := 35) (hR.1 35 (by decide) (by decide)) rfl (ct_giV wd_894 wd_896 sel_Mo_set wd_7 wd_897) (fun sz => s_Mo_set l g ws sz hR.rf ho) (nA := 2) (rm := rm_Mo_set) (by decide +kernel) rfl ⟨rfl, rfl⟩ (by decide) (by decide) (As := [.long (ms_L s6 4), .long (ms_L s6 5)]) (rest := []) rfl (Nat.le_of_ble_eq_true rfl) d_Mo_factor_62 (fun ws1 H locs hw hp => ?_)
      have hR := hR.trans hp
      clear hp
      generalize ws1 = ws at hw hR
      refine lv_aload_n hx hb d_Mo_factor_65 rfl (lv_at hl 1 rfl) ?_
      refine lv_iload hx hb d_Mo_factor_66 (lv_at hl 0 rfl) ?_
      refine lv_if_eq hx hb (tgt := 75) d_Mo_factor_68 (by decide) (fun hc9 => ?_) (fun hc9 => ?_)
      · rw [if_pos hc9] at h
        refine lv_iconst (v := 2) hx hb d_Mo_factor_75 (by decide) ?_
        exact J76 ws H locs ls s7 2 hw hR (lv_sub hl [4] rfl) h
      · rw [if_neg hc9] at h
        refine lv_iconst (v := 0) hx hb d_Mo_factor_71 (by decide) ?_
        refine lv_goto hx hb (tgt := 76) d_Mo_factor_72 (by decide) ?_
        exact J76 ws H locs ls s7 0 hw hR (lv_sub hl [4] rfl) h
    · rw [if_neg hc9] at h
      refine lv_lconst (v := 0) hx hb d_Mo_factor_39 (by decide) ?_
      obtain rfl := Option.some.inj h
      exact hret hw hR d_Mo_factor_40
  unfold fn_Mo_factor at h
  obtain ⟨ws, hwe⟩ : ∃ z : va_W, z = ws0 := ⟨_, rfl⟩
  rw [← hwe] at hw
  have hR : ms_Rel g ws0 ws s := by rw [hwe]; exact hR
  clear hwe
  refine lv_aload_n hx hb d_Mo_factor_0 rfl (lv_at hl 0 rfl) ?_
  refine lv_iload_n hx hb d_Mo_factor_1 rfl (lv_at hl 1 rfl) ?_
  refine lv_if_lt hx hb (tgt := 24) d_Mo_factor_2 (by decide) (fun hc9 => ?_) (fun hc9 => ?_)
  · rw [if_pos hc9] at h
    refine lv_iconst (v := 1) hx hb d_Mo_factor_24 (by decide) ?_
    refine lv_goto hx hb (tgt := 29) d_Mo_factor_25 (by decide) ?_
    exact J29 ws H locs ls s 1 hw hR (lv_sub hl [0, 1, 2, 3] rfl) h
  · rw [if_neg hc9] at h
    refine lv_iload_n hx hb d_Mo_factor_5 rfl (lv_at hl 1 rfl) ?_
    refine lv_iconst (v := 1) hx hb d_Mo_factor_6 (by decide) ?_
    refine lv_icmp_gt hx hb (tgt := 24) d_Mo_factor_7 (by decide) (fun hc9 => ?_) (fun hc9 => ?_)
    · rw [if_pos hc9] at h
      refine lv_iconst (v := 1) hx hb d_Mo_factor_24 (by decide) ?_
      refine lv_goto hx hb (tgt := 29) d_Mo_factor_25 (by decide) ?_
      exact J29 ws H locs ls s 1 hw hR (lv_sub hl [0, 1, 2, 3] rfl) h
    · rw [if_neg hc9] at h
      refine lv_iload_n hx hb d_Mo_factor_10 rfl (lv_at hl 2 rfl) ?_
      refine lv_if_lt hx hb (tgt := 24) d_Mo_factor_11 (by decide) (fun hc9 => ?_) (fun hc9 => ?_)
      · rw [if_pos hc9] at h
        refine lv_iconst (v := 1) hx hb d_Mo_factor_24 (by decide) ?_
        refine lv_goto hx hb (tgt := 29) d_Mo_factor_25 (by decide) ?_
        exact J29 ws H locs ls s 1 hw hR (lv_sub hl [0, 1, 2, 3] rfl) h
      · rw [if_neg hc9] at h
        refine lv_iload_n hx hb d_Mo_factor_14 rfl (lv_at hl 2 rfl) ?_
        refine lv_aload_n hx hb d_Mo_factor_15 rfl (lv_at hl 0 rfl) ?_
        obtain ⟨x8, ho, h⟩ := ct_ob_some h
        refine ct_callVi C0 hw hl.1 (q0 := 35) (hR.1 35 (by decide) (by decide)) rfl (ct_giV wd_846 wd_848 sel_Mo_left wd_7 wd_849) (fun sz => s_Mo_left l g ws sz hR.rf ho) (nA := 0) (rm := rm_Mo_left) (by decide +kernel) rfl ⟨rfl, rfl⟩ (by decide) (by decide) (As := []) (rest := [.int a2, .ref (g.2.1 35)]) rfl (Nat.le_of_ble_eq_true rfl) d_Mo_factor_16 (fun ws1 H locs hw hp => ?_)
        rw [hp] at hw
        clear hp
        refine lv_iconst (v := 2) hx hb d_Mo_factor_19 (by decide) ?_
        refine lv_isub hx hb d_Mo_factor_20 ?_
        refine lv_icmp_le hx hb (tgt := 28) d_Mo_factor_21 (by decide) (fun hc9 => ?_) (fun hc9 => ?_)
        · rw [if_pos hc9] at h
          refine lv_iconst (v := 0) hx hb d_Mo_factor_28 (by decide) ?_
          exact J29 ws H locs ls s 0 hw hR (lv_sub hl [0, 1, 2, 3] rfl) h
        · rw [if_neg hc9] at h
          refine lv_iconst (v := 1) hx hb d_Mo_factor_24 (by decide) ?_
          refine lv_goto hx hb (tgt := 29) d_Mo_factor_25 (by decide) ?_
          exact J29 ws H locs ls s 1 hw hR (lv_sub hl [0, 1, 2, 3] rfl) h

theorem d_Mo_noRow_0 : decode c_Mo_noRow 0 = .ok (.iload_n 1, 1) := by decide +kernel
theorem d_Mo_noRow_1 : decode c_Mo_noRow 1 = .ok (.ifCond .lt 20, 3) := by decide +kernel
theorem d_Mo_noRow_4 : decode c_Mo_noRow 4 = .ok (.iload_n 1, 1) := by decide +kernel
theorem d_Mo_noRow_5 : decode c_Mo_noRow 5 = .ok (.iconst 3, 1) := by decide +kernel
theorem d_Mo_noRow_6 : decode c_Mo_noRow 6 = .ok (.if_icmp .gt 15, 3) := by decide +kernel
theorem d_Mo_noRow_9 : decode c_Mo_noRow 9 = .ok (.iload_n 2, 1) := by decide +kernel
theorem d_Mo_noRow_10 : decode c_Mo_noRow 10 = .ok (.ifCond .lt 11, 3) := by decide +kernel
theorem d_Mo_noRow_13 : decode c_Mo_noRow 13 = .ok (.iload_n 2, 1) := by decide +kernel
theorem d_Mo_noRow_14 : decode c_Mo_noRow 14 = .ok (.aload_n 0, 1) := by decide +kernel
theorem d_Mo_noRow_15 : decode c_Mo_noRow 15 = .ok (.invokevirtual 100, 3) := by decide +kernel
theorem d_Mo_noRow_18 : decode c_Mo_noRow 18 = .ok (.if_icmp .lt 7, 3) := by decide +kernel
theorem d_Mo_noRow_21 : decode c_Mo_noRow 21 = .ok (.iconst 1, 1) := by decide +kernel
theorem d_Mo_noRow_22 : decode c_Mo_noRow 22 = .ok (.goto 4, 3) := by decide +kernel
theorem d_Mo_noRow_25 : decode c_Mo_noRow 25 = .ok (.iconst 0, 1) := by decide +kernel
theorem d_Mo_noRow_26 : decode c_Mo_noRow 26 = .ok (.ireturn, 1) := by decide +kernel
set_option maxHeartbeats 4000000 in
set_option maxRecDepth 100000 in
theorem s_Mo_noRow (l : Launch) (g : Gx) (ws0 : va_W) (sz : Nat) {s : MS} {a1 : Int32} {a2 : Int32} {res : Int32} (hR : ms_Rel g ws0 ws0 s) (h : fn_Mo_noRow s a1 a2 = some res) : ct_MI l y_Mo_noRow c_Mo_noRow 3 (some .boolean) rm_Mo_noRow g ws0 sz [.ref (g.2.1 35), .int a1, .int a2] res (fun u => u = ws0) := by
  refine ct_startz (by decide +kernel) (Nat.le_of_ble_eq_true rfl) (fun p e sv m args below meth c ls Q A H locs C0 hret hl hw => ?_)
  have hx := C0.1
  have hb := C0.2.1
  have hown := C0.2.2.2.1
  have hts := C0.2.2.2.2.1
  have hl : lv_has ls 3 [(0, .ref (g.2.1 35)), (1, .int a1), (2, .int a2)] := hl
  unfold fn_Mo_noRow at h
  refine lv_iload_n hx hb d_Mo_noRow_0 rfl (lv_at hl 1 rfl) ?_
  refine lv_if_lt hx hb (tgt := 21) d_Mo_noRow_1 (by decide) (fun hc9 => ?_) (fun hc9 => ?_)
  · rw [if_pos hc9] at h
    refine lv_iconst (v := 1) hx hb d_Mo_noRow_21 (by decide) ?_
    refine lv_goto hx hb (tgt := 26) d_Mo_noRow_22 (by decide) ?_
    have hz : ct_isB 1 = true := by decide
    obtain rfl := Option.some.inj h
    exact hret hz hw rfl d_Mo_noRow_26
  · rw [if_neg hc9] at h
    refine lv_iload_n hx hb d_Mo_noRow_4 rfl (lv_at hl 1 rfl) ?_
    refine lv_iconst (v := 3) hx hb d_Mo_noRow_5 (by decide) ?_
    refine lv_icmp_gt hx hb (tgt := 21) d_Mo_noRow_6 (by decide) (fun hc9 => ?_) (fun hc9 => ?_)
    · rw [if_pos hc9] at h
      refine lv_iconst (v := 1) hx hb d_Mo_noRow_21 (by decide) ?_
      refine lv_goto hx hb (tgt := 26) d_Mo_noRow_22 (by decide) ?_
      have hz : ct_isB 1 = true := by decide
      obtain rfl := Option.some.inj h
      exact hret hz hw rfl d_Mo_noRow_26
    · rw [if_neg hc9] at h
      refine lv_iload_n hx hb d_Mo_noRow_9 rfl (lv_at hl 2 rfl) ?_
      refine lv_if_lt hx hb (tgt := 21) d_Mo_noRow_10 (by decide) (fun hc9 => ?_) (fun hc9 => ?_)
      · rw [if_pos hc9] at h
        refine lv_iconst (v := 1) hx hb d_Mo_noRow_21 (by decide) ?_
        refine lv_goto hx hb (tgt := 26) d_Mo_noRow_22 (by decide) ?_
        have hz : ct_isB 1 = true := by decide
        obtain rfl := Option.some.inj h
        exact hret hz hw rfl d_Mo_noRow_26
      · rw [if_neg hc9] at h
        refine lv_iload_n hx hb d_Mo_noRow_13 rfl (lv_at hl 2 rfl) ?_
        refine lv_aload_n hx hb d_Mo_noRow_14 rfl (lv_at hl 0 rfl) ?_
        obtain ⟨x1, ho, h⟩ := ct_ob_some h
        refine ct_callVi C0 hw hl.1 (q0 := 35) (hR.1 35 (by decide) (by decide)) rfl (ct_giV wd_846 wd_848 sel_Mo_left wd_7 wd_849) (fun sz => s_Mo_left l g ws0 sz hR.rf ho) (nA := 0) (rm := rm_Mo_left) (by decide +kernel) rfl ⟨rfl, rfl⟩ (by decide) (by decide) (As := []) (rest := [.int a2]) rfl (Nat.le_of_ble_eq_true rfl) d_Mo_noRow_15 (fun ws1 H locs hw hp => ?_)
        rw [hp] at hw
        clear hp
        refine lv_icmp_lt hx hb (tgt := 25) d_Mo_noRow_18 (by decide) (fun hc9 => ?_) (fun hc9 => ?_)
        · rw [if_pos hc9] at h
          refine lv_iconst (v := 0) hx hb d_Mo_noRow_25 (by decide) ?_
          have hz : ct_isB 0 = true := by decide
          obtain rfl := Option.some.inj h
          exact hret hz hw rfl d_Mo_noRow_26
        · rw [if_neg hc9] at h
          refine lv_iconst (v := 1) hx hb d_Mo_noRow_21 (by decide) ?_
          refine lv_goto hx hb (tgt := 26) d_Mo_noRow_22 (by decide) ?_
          have hz : ct_isB 1 = true := by decide
          obtain rfl := Option.some.inj h
          exact hret hz hw rfl d_Mo_noRow_26

theorem d_Mo_ultimate_0 : decode c_Mo_ultimate 0 = .ok (.aload_n 0, 1) := by decide +kernel
theorem d_Mo_ultimate_1 : decode c_Mo_ultimate 1 = .ok (.aload_n 0, 1) := by decide +kernel
theorem d_Mo_ultimate_2 : decode c_Mo_ultimate 2 = .ok (.iload_n 1, 1) := by decide +kernel
theorem d_Mo_ultimate_3 : decode c_Mo_ultimate 3 = .ok (.iload_n 2, 1) := by decide +kernel
theorem d_Mo_ultimate_4 : decode c_Mo_ultimate 4 = .ok (.invokevirtual 186, 3) := by decide +kernel
theorem d_Mo_ultimate_7 : decode c_Mo_ultimate 7 = .ok (.ifCond .eq 7, 3) := by decide +kernel
theorem d_Mo_ultimate_10 : decode c_Mo_ultimate 10 = .ok (.iconst 1, 1) := by decide +kernel
theorem d_Mo_ultimate_11 : decode c_Mo_ultimate 11 = .ok (.goto 4, 3) := by decide +kernel
theorem d_Mo_ultimate_14 : decode c_Mo_ultimate 14 = .ok (.iconst 0, 1) := by decide +kernel
theorem d_Mo_ultimate_15 : decode c_Mo_ultimate 15 = .ok (.putfield 55, 3) := by decide +kernel
theorem d_Mo_ultimate_18 : decode c_Mo_ultimate 18 = .ok (.aload_n 0, 1) := by decide +kernel
theorem d_Mo_ultimate_19 : decode c_Mo_ultimate 19 = .ok (.getfield 55, 3) := by decide +kernel
theorem d_Mo_ultimate_22 : decode c_Mo_ultimate 22 = .ok (.ifCond .eq 5, 3) := by decide +kernel
theorem d_Mo_ultimate_25 : decode c_Mo_ultimate 25 = .ok (.lconst 0, 1) := by decide +kernel
theorem d_Mo_ultimate_26 : decode c_Mo_ultimate 26 = .ok (.lreturn, 1) := by decide +kernel
theorem d_Mo_ultimate_27 : decode c_Mo_ultimate 27 = .ok (.aload_n 0, 1) := by decide +kernel
theorem d_Mo_ultimate_28 : decode c_Mo_ultimate 28 = .ok (.invokevirtual 179, 3) := by decide +kernel
theorem d_Mo_ultimate_31 : decode c_Mo_ultimate 31 = .ok (.aload_n 0, 1) := by decide +kernel
theorem d_Mo_ultimate_32 : decode c_Mo_ultimate 32 = .ok (.aload_n 0, 1) := by decide +kernel
theorem d_Mo_ultimate_33 : decode c_Mo_ultimate 33 = .ok (.iload_n 1, 1) := by decide +kernel
theorem d_Mo_ultimate_34 : decode c_Mo_ultimate 34 = .ok (.iload_n 2, 1) := by decide +kernel
theorem d_Mo_ultimate_35 : decode c_Mo_ultimate 35 = .ok (.invokevirtual 176, 3) := by decide +kernel
theorem d_Mo_ultimate_38 : decode c_Mo_ultimate 38 = .ok (.iload_n 3, 1) := by decide +kernel
theorem d_Mo_ultimate_39 : decode c_Mo_ultimate 39 = .ok (.invokevirtual 182, 3) := by decide +kernel
theorem d_Mo_ultimate_42 : decode c_Mo_ultimate 42 = .ok (.lreturn, 1) := by decide +kernel
set_option maxHeartbeats 4000000 in
set_option maxRecDepth 100000 in
theorem s_Mo_ultimate (l : Launch) (g : Gx) (ws0 : va_W) (sz : Nat) {s : MS} {a1 : Int32} {a2 : Int32} {a3 : Int32} {res : (Int64 × MS)} (hR : ms_Rel g ws0 ws0 s) (h : fn_Mo_ultimate s a1 a2 a3 = some res) : ct_ML l y_Mo_ultimate c_Mo_ultimate 4 (some .long) rm_Mo_ultimate g ws0 sz [.ref (g.2.1 35), .int a1, .int a2, .int a3] res.1 (fun u => ms_Rel g ws0 u res.2) := by
  refine ct_startl (by decide +kernel) (Nat.le_of_ble_eq_true rfl) (fun p e sv m args below meth c ls Q A H locs C0 hret hl hw => ?_)
  have hx := C0.1
  have hb := C0.2.1
  have hown := C0.2.2.2.1
  have hts := C0.2.2.2.2.1
  have hl : lv_has ls 4 [(0, .ref (g.2.1 35)), (1, .int a1), (2, .int a2), (3, .int a3)] := hl
  have J15 : ∀ (ws : va_W) (H : Heap) (locs : List Loc) (ls : Array Slot) (s : MS) (t1 : Int32), ct_Wd g A sv ws H locs → ms_Rel g ws0 ws s → lv_has ls 4 [(0, .ref (g.2.1 35)), (1, .int a1), (2, .int a2), (3, .int a3)] → bk_Mo_ultimate_15 a1 a2 a3 s t1 = some res → W p l e rm_Mo_ultimate sv m args below meth c H locs 0 0 Q (F0 m 15 ls [.int t1, .ref (g.2.1 35)]) := by
    intro ws H locs ls s t1 hw hR hl h
    unfold bk_Mo_ultimate_15 at h
    refine pf_Mo_55 C0 hw hR d_Mo_ultimate_15 (fun ws H locs hw hR => ?_)
    obtain ⟨s1, es9, h⟩ := ct_nm_ex h
    rw [← es9] at hR
    clear es9
    refine lv_aload_n hx hb d_Mo_ultimate_18 rfl (lv_at hl 0 rfl) ?_
    refine gf_Mo_55 C0 hw hR d_Mo_ultimate_19 ?_
    refine lv_if_eq hx hb (tgt := 27) d_Mo_ultimate_22 (by decide) (fun hc9 => ?_) (fun hc9 => ?_)
    · rw [if_pos hc9] at h
      refine lv_aload_n hx hb d_Mo_ultimate_27 rfl (lv_at hl 0 rfl) ?_
      obtain ⟨s2, ho, h⟩ := ct_ob_some h
      refine ct_callVv C0 hw hl.1 (q0 := 35) (hR.1 35 (by decide) (by decide)) rfl (ct_giV wd_878 wd_880 sel_Mo_look wd_7 wd_881) (fun sz => s_Mo_look l g ws sz hR.rf ho) (nA := 0) (rm := rm_Mo_look) (by decide +kernel) rfl ⟨rfl, rfl⟩ (by decide) (by decide) (As := []) (rest := []) rfl (Nat.le_of_ble_eq_true rfl) d_Mo_ultimate_28 (fun ws1 H locs hw hp => ?_)
      have hR := hR.trans hp
      clear hp
      generalize ws1 = ws at hw hR
      refine lv_aload_n hx hb d_Mo_ultimate_31 rfl (lv_at hl 0 rfl) ?_
      refine lv_aload_n hx hb d_Mo_ultimate_32 rfl (lv_at hl 0 rfl) ?_
      refine lv_iload_n hx hb d_Mo_ultimate_33 rfl (lv_at hl 1 rfl) ?_
      refine lv_iload_n hx hb d_Mo_ultimate_34 rfl (lv_at hl 2 rfl) ?_
      obtain ⟨x3, s4, ho, h⟩ := ct_ob2_some h
      refine ct_callVi C0 hw hl.1 (q0 := 35) (hR.1 35 (by decide) (by decide)) rfl (ct_giV wd_910 wd_912 sel_Mo_work wd_7 wd_913) (fun sz => s_Mo_work l g ws sz hR.rf ho) (nA := 2) (rm := rm_Mo_work) (by decide +kernel) rfl ⟨rfl, rfl⟩ (by decide) (by decide) (As := [.int a1, .int a2]) (rest := [.ref (g.2.1 35)]) rfl (Nat.le_of_ble_eq_true rfl) d_Mo_ultimate_35 (fun ws1 H locs hw hp => ?_)
      have hR := hR.trans hp
      clear hp
      generalize ws1 = ws at hw hR
      refine lv_iload_n hx hb d_Mo_ultimate_38 rfl (lv_at hl 3 rfl) ?_
      obtain ⟨x5, s6, ho, h⟩ := ct_ob2_some h
      refine ct_callVl C0 hw hl.1 (q0 := 35) (hR.1 35 (by decide) (by decide)) rfl (ct_giV wd_898 wd_900 sel_Mo_told wd_7 wd_901) (fun sz => s_Mo_told l g ws sz hR.rf ho) (nA := 2) (rm := rm_Mo_told) (by decide +kernel) rfl ⟨rfl, rfl⟩ (by decide) (by decide) (As := [.int x3, .int a3]) (rest := []) rfl (Nat.le_of_ble_eq_true rfl) d_Mo_ultimate_39 (fun ws1 H locs hw hp => ?_)
      have hR := hR.trans hp
      clear hp
      generalize ws1 = ws at hw hR
      obtain rfl := Option.some.inj h
      exact hret hw hR d_Mo_ultimate_42
    · rw [if_neg hc9] at h
      refine lv_lconst (v := 0) hx hb d_Mo_ultimate_25 (by decide) ?_
      obtain rfl := Option.some.inj h
      exact hret hw hR d_Mo_ultimate_26
  unfold fn_Mo_ultimate at h
  obtain ⟨ws, hwe⟩ : ∃ z : va_W, z = ws0 := ⟨_, rfl⟩
  rw [← hwe] at hw
  have hR : ms_Rel g ws0 ws s := by rw [hwe]; exact hR
  clear hwe
  refine lv_aload_n hx hb d_Mo_ultimate_0 rfl (lv_at hl 0 rfl) ?_
  refine lv_aload_n hx hb d_Mo_ultimate_1 rfl (lv_at hl 0 rfl) ?_
  refine lv_iload_n hx hb d_Mo_ultimate_2 rfl (lv_at hl 1 rfl) ?_
  refine lv_iload_n hx hb d_Mo_ultimate_3 rfl (lv_at hl 2 rfl) ?_
  obtain ⟨x7, ho, h⟩ := ct_ob_some h
  refine ct_callVi C0 hw hl.1 (q0 := 35) (hR.1 35 (by decide) (by decide)) rfl (ct_giV wd_906 wd_908 sel_Mo_noRow wd_7 wd_909) (fun sz => s_Mo_noRow l g ws sz hR.rf ho) (nA := 2) (rm := rm_Mo_noRow) (by decide +kernel) rfl ⟨rfl, rfl⟩ (by decide) (by decide) (As := [.int a1, .int a2]) (rest := [.ref (g.2.1 35)]) rfl (Nat.le_of_ble_eq_true rfl) d_Mo_ultimate_4 (fun ws1 H locs hw hp => ?_)
  rw [hp] at hw
  clear hp
  refine lv_if_eq hx hb (tgt := 14) d_Mo_ultimate_7 (by decide) (fun hc9 => ?_) (fun hc9 => ?_)
  · rw [if_pos hc9] at h
    refine lv_iconst (v := 0) hx hb d_Mo_ultimate_14 (by decide) ?_
    exact J15 ws H locs ls s 0 hw hR (lv_sub hl [0, 1, 2, 3] rfl) h
  · rw [if_neg hc9] at h
    refine lv_iconst (v := 1) hx hb d_Mo_ultimate_10 (by decide) ?_
    refine lv_goto hx hb (tgt := 15) d_Mo_ultimate_11 (by decide) ?_
    exact J15 ws H locs ls s 1 hw hR (lv_sub hl [0, 1, 2, 3] rfl) h

theorem d_Mo_reserve_0 : decode c_Mo_reserve 0 = .ok (.aload_n 0, 1) := by decide +kernel
theorem d_Mo_reserve_1 : decode c_Mo_reserve 1 = .ok (.aload_n 0, 1) := by decide +kernel
theorem d_Mo_reserve_2 : decode c_Mo_reserve 2 = .ok (.iload_n 1, 1) := by decide +kernel
theorem d_Mo_reserve_3 : decode c_Mo_reserve 3 = .ok (.iload_n 2, 1) := by decide +kernel
theorem d_Mo_reserve_4 : decode c_Mo_reserve 4 = .ok (.invokevirtual 186, 3) := by decide +kernel
theorem d_Mo_reserve_7 : decode c_Mo_reserve 7 = .ok (.ifCond .eq 7, 3) := by decide +kernel
theorem d_Mo_reserve_10 : decode c_Mo_reserve 10 = .ok (.iconst 1, 1) := by decide +kernel
theorem d_Mo_reserve_11 : decode c_Mo_reserve 11 = .ok (.goto 4, 3) := by decide +kernel
theorem d_Mo_reserve_14 : decode c_Mo_reserve 14 = .ok (.iconst 0, 1) := by decide +kernel
theorem d_Mo_reserve_15 : decode c_Mo_reserve 15 = .ok (.putfield 55, 3) := by decide +kernel
theorem d_Mo_reserve_18 : decode c_Mo_reserve 18 = .ok (.aload_n 0, 1) := by decide +kernel
theorem d_Mo_reserve_19 : decode c_Mo_reserve 19 = .ok (.getfield 55, 3) := by decide +kernel
theorem d_Mo_reserve_22 : decode c_Mo_reserve 22 = .ok (.ifCond .eq 5, 3) := by decide +kernel
theorem d_Mo_reserve_25 : decode c_Mo_reserve 25 = .ok (.lconst 0, 1) := by decide +kernel
theorem d_Mo_reserve_26 : decode c_Mo_reserve 26 = .ok (.lreturn, 1) := by decide +kernel
theorem d_Mo_reserve_27 : decode c_Mo_reserve 27 = .ok (.aload_n 0, 1) := by decide +kernel
theorem d_Mo_reserve_28 : decode c_Mo_reserve 28 = .ok (.invokevirtual 179, 3) := by decide +kernel
theorem d_Mo_reserve_31 : decode c_Mo_reserve 31 = .ok (.aload_n 0, 1) := by decide +kernel
theorem d_Mo_reserve_32 : decode c_Mo_reserve 32 = .ok (.aload_n 0, 1) := by decide +kernel
theorem d_Mo_reserve_33 : decode c_Mo_reserve 33 = .ok (.iload_n 1, 1) := by decide +kernel
theorem d_Mo_reserve_34 : decode c_Mo_reserve 34 = .ok (.iload_n 2, 1) := by decide +kernel
theorem d_Mo_reserve_35 : decode c_Mo_reserve 35 = .ok (.invokevirtual 189, 3) := by decide +kernel
theorem d_Mo_reserve_38 : decode c_Mo_reserve 38 = .ok (.iload_n 3, 1) := by decide +kernel
theorem d_Mo_reserve_39 : decode c_Mo_reserve 39 = .ok (.invokevirtual 182, 3) := by decide +kernel
theorem d_Mo_reserve_42 : decode c_Mo_reserve 42 = .ok (.lreturn, 1) := by decide +kernel
set_option maxHeartbeats 4000000 in
set_option maxRecDepth 100000 in
theorem s_Mo_reserve (l : Launch) (g : Gx) (ws0 : va_W) (sz : Nat) {s : MS} {a1 : Int32} {a2 : Int32} {a3 : Int32} {res : (Int64 × MS)} (hR : ms_Rel g ws0 ws0 s) (h : fn_Mo_reserve s a1 a2 a3 = some res) : ct_ML l y_Mo_reserve c_Mo_reserve 4 (some .long) rm_Mo_reserve g ws0 sz [.ref (g.2.1 35), .int a1, .int a2, .int a3] res.1 (fun u => ms_Rel g ws0 u res.2) := by
  refine ct_startl (by decide +kernel) (Nat.le_of_ble_eq_true rfl) (fun p e sv m args below meth c ls Q A H locs C0 hret hl hw => ?_)
  have hx := C0.1
  have hb := C0.2.1
  have hown := C0.2.2.2.1
  have hts := C0.2.2.2.2.1
  have hl : lv_has ls 4 [(0, .ref (g.2.1 35)), (1, .int a1), (2, .int a2), (3, .int a3)] := hl
  have J15 : ∀ (ws : va_W) (H : Heap) (locs : List Loc) (ls : Array Slot) (s : MS) (t1 : Int32), ct_Wd g A sv ws H locs → ms_Rel g ws0 ws s → lv_has ls 4 [(0, .ref (g.2.1 35)), (1, .int a1), (2, .int a2), (3, .int a3)] → bk_Mo_reserve_15 a1 a2 a3 s t1 = some res → W p l e rm_Mo_reserve sv m args below meth c H locs 0 0 Q (F0 m 15 ls [.int t1, .ref (g.2.1 35)]) := by
    intro ws H locs ls s t1 hw hR hl h
    unfold bk_Mo_reserve_15 at h
    refine pf_Mo_55 C0 hw hR d_Mo_reserve_15 (fun ws H locs hw hR => ?_)
    obtain ⟨s1, es9, h⟩ := ct_nm_ex h
    rw [← es9] at hR
    clear es9
    refine lv_aload_n hx hb d_Mo_reserve_18 rfl (lv_at hl 0 rfl) ?_
    refine gf_Mo_55 C0 hw hR d_Mo_reserve_19 ?_
    refine lv_if_eq hx hb (tgt := 27) d_Mo_reserve_22 (by decide) (fun hc9 => ?_) (fun hc9 => ?_)
    · rw [if_pos hc9] at h
      refine lv_aload_n hx hb d_Mo_reserve_27 rfl (lv_at hl 0 rfl) ?_
      obtain ⟨s2, ho, h⟩ := ct_ob_some h
      refine ct_callVv C0 hw hl.1 (q0 := 35) (hR.1 35 (by decide) (by decide)) rfl (ct_giV wd_878 wd_880 sel_Mo_look wd_7 wd_881) (fun sz => s_Mo_look l g ws sz hR.rf ho) (nA := 0) (rm := rm_Mo_look) (by decide +kernel) rfl ⟨rfl, rfl⟩ (by decide) (by decide) (As := []) (rest := []) rfl (Nat.le_of_ble_eq_true rfl) d_Mo_reserve_28 (fun ws1 H locs hw hp => ?_)
      have hR := hR.trans hp
      clear hp
      generalize ws1 = ws at hw hR
      refine lv_aload_n hx hb d_Mo_reserve_31 rfl (lv_at hl 0 rfl) ?_
      refine lv_aload_n hx hb d_Mo_reserve_32 rfl (lv_at hl 0 rfl) ?_
      refine lv_iload_n hx hb d_Mo_reserve_33 rfl (lv_at hl 1 rfl) ?_
      refine lv_iload_n hx hb d_Mo_reserve_34 rfl (lv_at hl 2 rfl) ?_
      obtain ⟨x3, s4, ho, h⟩ := ct_ob2_some h
      refine ct_callVi C0 hw hl.1 (q0 := 35) (hR.1 35 (by decide) (by decide)) rfl (ct_giV wd_956 wd_958 sel_Mo_workReserve wd_7 wd_959) (fun sz => s_Mo_workReserve l g ws sz hR.rf ho) (nA := 2) (rm := rm_Mo_workReserve) (by decide +kernel) rfl ⟨rfl, rfl⟩ (by decide) (by decide) (As := [.int a1, .int a2]) (rest := [.ref (g.2.1 35)]) rfl (Nat.le_of_ble_eq_true rfl) d_Mo_reserve_35 (fun ws1 H locs hw hp => ?_)
      have hR := hR.trans hp
      clear hp
      generalize ws1 = ws at hw hR
      refine lv_iload_n hx hb d_Mo_reserve_38 rfl (lv_at hl 3 rfl) ?_
      obtain ⟨x5, s6, ho, h⟩ := ct_ob2_some h
      refine ct_callVl C0 hw hl.1 (q0 := 35) (hR.1 35 (by decide) (by decide)) rfl (ct_giV wd_898 wd_900 sel_Mo_told wd_7 wd_901) (fun sz => s_Mo_told l g ws sz hR.rf ho) (nA := 2) (rm := rm_Mo_told) (by decide +kernel) rfl ⟨rfl, rfl⟩ (by decide) (by decide) (As := [.int x3, .int a3]) (rest := []) rfl (Nat.le_of_ble_eq_true rfl) d_Mo_reserve_39 (fun ws1 H locs hw hp => ?_)
      have hR := hR.trans hp
      clear hp
      generalize ws1 = ws at hw hR
      obtain rfl := Option.some.inj h
      exact hret hw hR d_Mo_reserve_42
    · rw [if_neg hc9] at h
      refine lv_lconst (v := 0) hx hb d_Mo_reserve_25 (by decide) ?_
      obtain rfl := Option.some.inj h
      exact hret hw hR d_Mo_reserve_26
  unfold fn_Mo_reserve at h
  obtain ⟨ws, hwe⟩ : ∃ z : va_W, z = ws0 := ⟨_, rfl⟩
  rw [← hwe] at hw
  have hR : ms_Rel g ws0 ws s := by rw [hwe]; exact hR
  clear hwe
  refine lv_aload_n hx hb d_Mo_reserve_0 rfl (lv_at hl 0 rfl) ?_
  refine lv_aload_n hx hb d_Mo_reserve_1 rfl (lv_at hl 0 rfl) ?_
  refine lv_iload_n hx hb d_Mo_reserve_2 rfl (lv_at hl 1 rfl) ?_
  refine lv_iload_n hx hb d_Mo_reserve_3 rfl (lv_at hl 2 rfl) ?_
  obtain ⟨x7, ho, h⟩ := ct_ob_some h
  refine ct_callVi C0 hw hl.1 (q0 := 35) (hR.1 35 (by decide) (by decide)) rfl (ct_giV wd_906 wd_908 sel_Mo_noRow wd_7 wd_909) (fun sz => s_Mo_noRow l g ws sz hR.rf ho) (nA := 2) (rm := rm_Mo_noRow) (by decide +kernel) rfl ⟨rfl, rfl⟩ (by decide) (by decide) (As := [.int a1, .int a2]) (rest := [.ref (g.2.1 35)]) rfl (Nat.le_of_ble_eq_true rfl) d_Mo_reserve_4 (fun ws1 H locs hw hp => ?_)
  rw [hp] at hw
  clear hp
  refine lv_if_eq hx hb (tgt := 14) d_Mo_reserve_7 (by decide) (fun hc9 => ?_) (fun hc9 => ?_)
  · rw [if_pos hc9] at h
    refine lv_iconst (v := 0) hx hb d_Mo_reserve_14 (by decide) ?_
    exact J15 ws H locs ls s 0 hw hR (lv_sub hl [0, 1, 2, 3] rfl) h
  · rw [if_neg hc9] at h
    refine lv_iconst (v := 1) hx hb d_Mo_reserve_10 (by decide) ?_
    refine lv_goto hx hb (tgt := 15) d_Mo_reserve_11 (by decide) ?_
    exact J15 ws H locs ls s 1 hw hR (lv_sub hl [0, 1, 2, 3] rfl) h

theorem d_Mo_rounded_0 : decode c_Mo_rounded 0 = .ok (.aload_n 0, 1) := by decide +kernel
theorem d_Mo_rounded_1 : decode c_Mo_rounded 1 = .ok (.aload_n 0, 1) := by decide +kernel
theorem d_Mo_rounded_2 : decode c_Mo_rounded 2 = .ok (.iload_n 1, 1) := by decide +kernel
theorem d_Mo_rounded_3 : decode c_Mo_rounded 3 = .ok (.iload_n 2, 1) := by decide +kernel
theorem d_Mo_rounded_4 : decode c_Mo_rounded 4 = .ok (.invokevirtual 186, 3) := by decide +kernel
theorem d_Mo_rounded_7 : decode c_Mo_rounded 7 = .ok (.ifCond .eq 7, 3) := by decide +kernel
theorem d_Mo_rounded_10 : decode c_Mo_rounded 10 = .ok (.iconst 1, 1) := by decide +kernel
theorem d_Mo_rounded_11 : decode c_Mo_rounded 11 = .ok (.goto 4, 3) := by decide +kernel
theorem d_Mo_rounded_14 : decode c_Mo_rounded 14 = .ok (.iconst 0, 1) := by decide +kernel
theorem d_Mo_rounded_15 : decode c_Mo_rounded 15 = .ok (.putfield 55, 3) := by decide +kernel
theorem d_Mo_rounded_18 : decode c_Mo_rounded 18 = .ok (.aload_n 0, 1) := by decide +kernel
theorem d_Mo_rounded_19 : decode c_Mo_rounded 19 = .ok (.getfield 55, 3) := by decide +kernel
theorem d_Mo_rounded_22 : decode c_Mo_rounded 22 = .ok (.ifCond .eq 5, 3) := by decide +kernel
theorem d_Mo_rounded_25 : decode c_Mo_rounded 25 = .ok (.lconst 0, 1) := by decide +kernel
theorem d_Mo_rounded_26 : decode c_Mo_rounded 26 = .ok (.lreturn, 1) := by decide +kernel
theorem d_Mo_rounded_27 : decode c_Mo_rounded 27 = .ok (.aload_n 0, 1) := by decide +kernel
theorem d_Mo_rounded_28 : decode c_Mo_rounded 28 = .ok (.invokevirtual 179, 3) := by decide +kernel
theorem d_Mo_rounded_31 : decode c_Mo_rounded 31 = .ok (.aload_n 0, 1) := by decide +kernel
theorem d_Mo_rounded_32 : decode c_Mo_rounded 32 = .ok (.aload_n 0, 1) := by decide +kernel
theorem d_Mo_rounded_33 : decode c_Mo_rounded 33 = .ok (.iload_n 1, 1) := by decide +kernel
theorem d_Mo_rounded_34 : decode c_Mo_rounded 34 = .ok (.iload_n 2, 1) := by decide +kernel
theorem d_Mo_rounded_35 : decode c_Mo_rounded 35 = .ok (.invokevirtual 189, 3) := by decide +kernel
theorem d_Mo_rounded_38 : decode c_Mo_rounded 38 = .ok (.putfield 55, 3) := by decide +kernel
theorem d_Mo_rounded_41 : decode c_Mo_rounded 41 = .ok (.aload_n 0, 1) := by decide +kernel
theorem d_Mo_rounded_42 : decode c_Mo_rounded 42 = .ok (.getfield 55, 3) := by decide +kernel
theorem d_Mo_rounded_45 : decode c_Mo_rounded 45 = .ok (.ifCond .eq 5, 3) := by decide +kernel
theorem d_Mo_rounded_48 : decode c_Mo_rounded 48 = .ok (.lconst 0, 1) := by decide +kernel
theorem d_Mo_rounded_49 : decode c_Mo_rounded 49 = .ok (.lreturn, 1) := by decide +kernel
theorem d_Mo_rounded_50 : decode c_Mo_rounded 50 = .ok (.aload_n 0, 1) := by decide +kernel
theorem d_Mo_rounded_51 : decode c_Mo_rounded 51 = .ok (.getfield 114, 3) := by decide +kernel
theorem d_Mo_rounded_54 : decode c_Mo_rounded 54 = .ok (.aload_n 0, 1) := by decide +kernel
theorem d_Mo_rounded_55 : decode c_Mo_rounded 55 = .ok (.getfield 118, 3) := by decide +kernel
theorem d_Mo_rounded_58 : decode c_Mo_rounded 58 = .ok (.ldiv, 1) := by decide +kernel
theorem d_Mo_rounded_59 : decode c_Mo_rounded 59 = .ok (.lstore_n 3, 1) := by decide +kernel
theorem d_Mo_rounded_60 : decode c_Mo_rounded 60 = .ok (.lload_n 3, 1) := by decide +kernel
theorem d_Mo_rounded_61 : decode c_Mo_rounded 61 = .ok (.aload_n 0, 1) := by decide +kernel
theorem d_Mo_rounded_62 : decode c_Mo_rounded 62 = .ok (.getfield 118, 3) := by decide +kernel
theorem d_Mo_rounded_65 : decode c_Mo_rounded 65 = .ok (.lmul, 1) := by decide +kernel
theorem d_Mo_rounded_66 : decode c_Mo_rounded 66 = .ok (.aload_n 0, 1) := by decide +kernel
theorem d_Mo_rounded_67 : decode c_Mo_rounded 67 = .ok (.getfield 114, 3) := by decide +kernel
theorem d_Mo_rounded_70 : decode c_Mo_rounded 70 = .ok (.lcmp, 1) := by decide +kernel
theorem d_Mo_rounded_71 : decode c_Mo_rounded 71 = .ok (.ifCond .le 9, 3) := by decide +kernel
theorem d_Mo_rounded_74 : decode c_Mo_rounded 74 = .ok (.lload_n 3, 1) := by decide +kernel
theorem d_Mo_rounded_75 : decode c_Mo_rounded 75 = .ok (.lconst 1, 1) := by decide +kernel
theorem d_Mo_rounded_76 : decode c_Mo_rounded 76 = .ok (.lsub, 1) := by decide +kernel
theorem d_Mo_rounded_77 : decode c_Mo_rounded 77 = .ok (.goto 4, 3) := by decide +kernel
theorem d_Mo_rounded_80 : decode c_Mo_rounded 80 = .ok (.lload_n 3, 1) := by decide +kernel
theorem d_Mo_rounded_81 : decode c_Mo_rounded 81 = .ok (.lstore_n 3, 1) := by decide +kernel
theorem d_Mo_rounded_82 : decode c_Mo_rounded 82 = .ok (.aload_n 0, 1) := by decide +kernel
theorem d_Mo_rounded_83 : decode c_Mo_rounded 83 = .ok (.getfield 114, 3) := by decide +kernel
theorem d_Mo_rounded_86 : decode c_Mo_rounded 86 = .ok (.lload_n 3, 1) := by decide +kernel
theorem d_Mo_rounded_87 : decode c_Mo_rounded 87 = .ok (.aload_n 0, 1) := by decide +kernel
theorem d_Mo_rounded_88 : decode c_Mo_rounded 88 = .ok (.getfield 118, 3) := by decide +kernel
theorem d_Mo_rounded_91 : decode c_Mo_rounded 91 = .ok (.lmul, 1) := by decide +kernel
theorem d_Mo_rounded_92 : decode c_Mo_rounded 92 = .ok (.lsub, 1) := by decide +kernel
theorem d_Mo_rounded_93 : decode c_Mo_rounded 93 = .ok (.lstore 5, 2) := by decide +kernel
theorem d_Mo_rounded_95 : decode c_Mo_rounded 95 = .ok (.lload 5, 2) := by decide +kernel
theorem d_Mo_rounded_97 : decode c_Mo_rounded 97 = .ok (.aload_n 0, 1) := by decide +kernel
theorem d_Mo_rounded_98 : decode c_Mo_rounded 98 = .ok (.getfield 118, 3) := by decide +kernel
theorem d_Mo_rounded_101 : decode c_Mo_rounded 101 = .ok (.lload 5, 2) := by decide +kernel
theorem d_Mo_rounded_103 : decode c_Mo_rounded 103 = .ok (.lsub, 1) := by decide +kernel
theorem d_Mo_rounded_104 : decode c_Mo_rounded 104 = .ok (.lcmp, 1) := by decide +kernel
theorem d_Mo_rounded_105 : decode c_Mo_rounded 105 = .ok (.ifCond .lt 9, 3) := by decide +kernel
theorem d_Mo_rounded_108 : decode c_Mo_rounded 108 = .ok (.lload_n 3, 1) := by decide +kernel
theorem d_Mo_rounded_109 : decode c_Mo_rounded 109 = .ok (.lconst 1, 1) := by decide +kernel
theorem d_Mo_rounded_110 : decode c_Mo_rounded 110 = .ok (.ladd, 1) := by decide +kernel
theorem d_Mo_rounded_111 : decode c_Mo_rounded 111 = .ok (.goto 4, 3) := by decide +kernel
theorem d_Mo_rounded_114 : decode c_Mo_rounded 114 = .ok (.lload_n 3, 1) := by decide +kernel
theorem d_Mo_rounded_115 : decode c_Mo_rounded 115 = .ok (.lreturn, 1) := by decide +kernel
set_option maxHeartbeats 4000000 in
set_option maxRecDepth 100000 in
theorem s_Mo_rounded (l : Launch) (g : Gx) (ws0 : va_W) (sz : Nat) {s : MS} {a1 : Int32} {a2 : Int32} {res : (Int64 × MS)} (hR : ms_Rel g ws0 ws0 s) (h : fn_Mo_rounded s a1 a2 = some res) : ct_ML l y_Mo_rounded c_Mo_rounded 7 (some .long) rm_Mo_rounded g ws0 sz [.ref (g.2.1 35), .int a1, .int a2] res.1 (fun u => ms_Rel g ws0 u res.2) := by
  refine ct_startl (by decide +kernel) (Nat.le_of_ble_eq_true rfl) (fun p e sv m args below meth c ls Q A H locs C0 hret hl hw => ?_)
  have hx := C0.1
  have hb := C0.2.1
  have hown := C0.2.2.2.1
  have hts := C0.2.2.2.2.1
  have hl : lv_has ls 7 [(0, .ref (g.2.1 35)), (1, .int a1), (2, .int a2)] := hl
  have J81 : ∀ (ws : va_W) (H : Heap) (locs : List Loc) (ls : Array Slot) (s : MS) (t0 : Int64), ct_Wd g A sv ws H locs → ms_Rel g ws0 ws s → lv_has ls 7 [(0, .ref (g.2.1 35))] → bk_Mo_rounded_81 a1 a2 s t0 = some res → W p l e rm_Mo_rounded sv m args below meth c H locs 0 0 Q (F0 m 81 ls [.long t0]) := by
    intro ws H locs ls s t0 hw hR hl h
    unfold bk_Mo_rounded_81 at h
    refine lv_lstore_n (lv' := [(3, .long t0), (0, .ref (g.2.1 35))]) hx hb d_Mo_rounded_81 rfl hl (by decide) rfl (fun ls hl => ?_)
    refine lv_aload_n hx hb d_Mo_rounded_82 rfl (lv_at hl 1 rfl) ?_
    refine gf_Mo_114 C0 hw hR d_Mo_rounded_83 ?_
    refine lv_lload_n hx hb d_Mo_rounded_86 rfl (lv_at hl 0 rfl) ?_
    refine lv_aload_n hx hb d_Mo_rounded_87 rfl (lv_at hl 1 rfl) ?_
    refine gf_Mo_118 C0 hw hR d_Mo_rounded_88 ?_
    refine lv_lmul hx hb d_Mo_rounded_91 ?_
    refine lv_lsub hx hb d_Mo_rounded_92 ?_
    refine lv_topl (fun x1 e9 => ?_)
    have h := ct_nm_at h e9
    clear e9
    refine lv_lstore (lv' := [(5, .long x1), (3, .long t0), (0, .ref (g.2.1 35))]) hx hb d_Mo_rounded_93 hl (by decide) rfl (fun ls hl => ?_)
    refine lv_lload hx hb d_Mo_rounded_95 (lv_at hl 0 rfl) ?_
    refine lv_aload_n hx hb d_Mo_rounded_97 rfl (lv_at hl 2 rfl) ?_
    refine gf_Mo_118 C0 hw hR d_Mo_rounded_98 ?_
    refine lv_lload hx hb d_Mo_rounded_101 (lv_at hl 0 rfl) ?_
    refine lv_lsub hx hb d_Mo_rounded_103 ?_
    refine W.lcmp hx hb d_Mo_rounded_104 ?_
    refine lv_if_lt hx hb (tgt := 114) d_Mo_rounded_105 (by decide) (fun hc9 => ?_) (fun hc9 => ?_)
    · rw [if_pos hc9] at h
      refine lv_lload_n hx hb d_Mo_rounded_114 rfl (lv_at hl 1 rfl) ?_
      obtain rfl := Option.some.inj h
      exact hret hw hR d_Mo_rounded_115
    · rw [if_neg hc9] at h
      refine lv_lload_n hx hb d_Mo_rounded_108 rfl (lv_at hl 1 rfl) ?_
      refine lv_lconst (v := 1) hx hb d_Mo_rounded_109 (by decide) ?_
      refine lv_ladd hx hb d_Mo_rounded_110 ?_
      refine lv_goto hx hb (tgt := 115) d_Mo_rounded_111 (by decide) ?_
      obtain rfl := Option.some.inj h
      exact hret hw hR d_Mo_rounded_115
  have J15 : ∀ (ws : va_W) (H : Heap) (locs : List Loc) (ls : Array Slot) (s : MS) (t1 : Int32), ct_Wd g A sv ws H locs → ms_Rel g ws0 ws s → lv_has ls 7 [(0, .ref (g.2.1 35)), (1, .int a1), (2, .int a2)] → bk_Mo_rounded_15 a1 a2 s t1 = some res → W p l e rm_Mo_rounded sv m args below meth c H locs 0 0 Q (F0 m 15 ls [.int t1, .ref (g.2.1 35)]) := by
    intro ws H locs ls s t1 hw hR hl h
    unfold bk_Mo_rounded_15 at h
    refine pf_Mo_55 C0 hw hR d_Mo_rounded_15 (fun ws H locs hw hR => ?_)
    obtain ⟨s2, es9, h⟩ := ct_nm_ex h
    rw [← es9] at hR
    clear es9
    refine lv_aload_n hx hb d_Mo_rounded_18 rfl (lv_at hl 0 rfl) ?_
    refine gf_Mo_55 C0 hw hR d_Mo_rounded_19 ?_
    refine lv_if_eq hx hb (tgt := 27) d_Mo_rounded_22 (by decide) (fun hc9 => ?_) (fun hc9 => ?_)
    · rw [if_pos hc9] at h
      refine lv_aload_n hx hb d_Mo_rounded_27 rfl (lv_at hl 0 rfl) ?_
      obtain ⟨s3, ho, h⟩ := ct_ob_some h
      refine ct_callVv C0 hw hl.1 (q0 := 35) (hR.1 35 (by decide) (by decide)) rfl (ct_giV wd_878 wd_880 sel_Mo_look wd_7 wd_881) (fun sz => s_Mo_look l g ws sz hR.rf ho) (nA := 0) (rm := rm_Mo_look) (by decide +kernel) rfl ⟨rfl, rfl⟩ (by decide) (by decide) (As := []) (rest := []) rfl (Nat.le_of_ble_eq_true rfl) d_Mo_rounded_28 (fun ws1 H locs hw hp => ?_)
      have hR := hR.trans hp
      clear hp
      generalize ws1 = ws at hw hR
      refine lv_aload_n hx hb d_Mo_rounded_31 rfl (lv_at hl 0 rfl) ?_
      refine lv_aload_n hx hb d_Mo_rounded_32 rfl (lv_at hl 0 rfl) ?_
      refine lv_iload_n hx hb d_Mo_rounded_33 rfl (lv_at hl 1 rfl) ?_
      refine lv_iload_n hx hb d_Mo_rounded_34 rfl (lv_at hl 2 rfl) ?_
      obtain ⟨x4, s5, ho, h⟩ := ct_ob2_some h
      refine ct_callVi C0 hw hl.1 (q0 := 35) (hR.1 35 (by decide) (by decide)) rfl (ct_giV wd_956 wd_958 sel_Mo_workReserve wd_7 wd_959) (fun sz => s_Mo_workReserve l g ws sz hR.rf ho) (nA := 2) (rm := rm_Mo_workReserve) (by decide +kernel) rfl ⟨rfl, rfl⟩ (by decide) (by decide) (As := [.int a1, .int a2]) (rest := [.ref (g.2.1 35)]) rfl (Nat.le_of_ble_eq_true rfl) d_Mo_rounded_35 (fun ws1 H locs hw hp => ?_)
      have hR := hR.trans hp
      clear hp
      generalize ws1 = ws at hw hR
      refine pf_Mo_55 C0 hw hR d_Mo_rounded_38 (fun ws H locs hw hR => ?_)
      obtain ⟨s6, es9, h⟩ := ct_nm_ex h
      rw [← es9] at hR
      clear es9
      refine lv_aload_n hx hb d_Mo_rounded_41 rfl (lv_at hl 0 rfl) ?_
      refine gf_Mo_55 C0 hw hR d_Mo_rounded_42 ?_
      refine lv_if_eq hx hb (tgt := 50) d_Mo_rounded_45 (by decide) (fun hc9 => ?_) (fun hc9 => ?_)
      · rw [if_pos hc9] at h
        refine lv_aload_n hx hb d_Mo_rounded_50 rfl (lv_at hl 0 rfl) ?_
        refine gf_Mo_114 C0 hw hR d_Mo_rounded_51 ?_
        refine lv_aload_n hx hb d_Mo_rounded_54 rfl (lv_at hl 0 rfl) ?_
        refine gf_Mo_118 C0 hw hR d_Mo_rounded_55 ?_
        obtain ⟨hg, h⟩ := ct_gd_some h
        refine lv_ldiv hx hb d_Mo_rounded_58 (ct_gzL_ne hg) ?_
        refine lv_topl (fun x7 e9 => ?_)
        have h := ct_nm_at h e9
        clear e9
        refine lv_lstore_n (lv' := [(3, .long x7), (0, .ref (g.2.1 35)), (1, .int a1), (2, .int a2)]) hx hb d_Mo_rounded_59 rfl hl (by decide) rfl (fun ls hl => ?_)
        refine lv_lload_n hx hb d_Mo_rounded_60 rfl (lv_at hl 0 rfl) ?_
        refine lv_aload_n hx hb d_Mo_rounded_61 rfl (lv_at hl 1 rfl) ?_
        refine gf_Mo_118 C0 hw hR d_Mo_rounded_62 ?_
        refine lv_lmul hx hb d_Mo_rounded_65 ?_
        refine lv_aload_n hx hb d_Mo_rounded_66 rfl (lv_at hl 1 rfl) ?_
        refine gf_Mo_114 C0 hw hR d_Mo_rounded_67 ?_
        refine W.lcmp hx hb d_Mo_rounded_70 ?_
        refine lv_if_le hx hb (tgt := 80) d_Mo_rounded_71 (by decide) (fun hc9 => ?_) (fun hc9 => ?_)
        · rw [if_pos hc9] at h
          refine lv_lload_n hx hb d_Mo_rounded_80 rfl (lv_at hl 0 rfl) ?_
          exact J81 ws H locs ls s6 x7 hw hR (lv_sub hl [1] rfl) h
        · rw [if_neg hc9] at h
          refine lv_lload_n hx hb d_Mo_rounded_74 rfl (lv_at hl 0 rfl) ?_
          refine lv_lconst (v := 1) hx hb d_Mo_rounded_75 (by decide) ?_
          refine lv_lsub hx hb d_Mo_rounded_76 ?_
          refine lv_goto hx hb (tgt := 81) d_Mo_rounded_77 (by decide) ?_
          exact J81 ws H locs ls s6 (x7 - 1) hw hR (lv_sub hl [1] rfl) h
      · rw [if_neg hc9] at h
        refine lv_lconst (v := 0) hx hb d_Mo_rounded_48 (by decide) ?_
        obtain rfl := Option.some.inj h
        exact hret hw hR d_Mo_rounded_49
    · rw [if_neg hc9] at h
      refine lv_lconst (v := 0) hx hb d_Mo_rounded_25 (by decide) ?_
      obtain rfl := Option.some.inj h
      exact hret hw hR d_Mo_rounded_26
  unfold fn_Mo_rounded at h
  obtain ⟨ws, hwe⟩ : ∃ z : va_W, z = ws0 := ⟨_, rfl⟩
  rw [← hwe] at hw
  have hR : ms_Rel g ws0 ws s := by rw [hwe]; exact hR
  clear hwe
  refine lv_aload_n hx hb d_Mo_rounded_0 rfl (lv_at hl 0 rfl) ?_
  refine lv_aload_n hx hb d_Mo_rounded_1 rfl (lv_at hl 0 rfl) ?_
  refine lv_iload_n hx hb d_Mo_rounded_2 rfl (lv_at hl 1 rfl) ?_
  refine lv_iload_n hx hb d_Mo_rounded_3 rfl (lv_at hl 2 rfl) ?_
  obtain ⟨x8, ho, h⟩ := ct_ob_some h
  refine ct_callVi C0 hw hl.1 (q0 := 35) (hR.1 35 (by decide) (by decide)) rfl (ct_giV wd_906 wd_908 sel_Mo_noRow wd_7 wd_909) (fun sz => s_Mo_noRow l g ws sz hR.rf ho) (nA := 2) (rm := rm_Mo_noRow) (by decide +kernel) rfl ⟨rfl, rfl⟩ (by decide) (by decide) (As := [.int a1, .int a2]) (rest := [.ref (g.2.1 35)]) rfl (Nat.le_of_ble_eq_true rfl) d_Mo_rounded_4 (fun ws1 H locs hw hp => ?_)
  rw [hp] at hw
  clear hp
  refine lv_if_eq hx hb (tgt := 14) d_Mo_rounded_7 (by decide) (fun hc9 => ?_) (fun hc9 => ?_)
  · rw [if_pos hc9] at h
    refine lv_iconst (v := 0) hx hb d_Mo_rounded_14 (by decide) ?_
    exact J15 ws H locs ls s 0 hw hR (lv_sub hl [0, 1, 2] rfl) h
  · rw [if_neg hc9] at h
    refine lv_iconst (v := 1) hx hb d_Mo_rounded_10 (by decide) ?_
    refine lv_goto hx hb (tgt := 15) d_Mo_rounded_11 (by decide) ?_
    exact J15 ws H locs ls s 1 hw hR (lv_sub hl [0, 1, 2] rfl) h

theorem d_Mo_total_0 : decode c_Mo_total 0 = .ok (.aload_n 0, 1) := by decide +kernel
theorem d_Mo_total_1 : decode c_Mo_total 1 = .ok (.iload_n 1, 1) := by decide +kernel
theorem d_Mo_total_2 : decode c_Mo_total 2 = .ok (.ifCond .lt 8, 3) := by decide +kernel
theorem d_Mo_total_5 : decode c_Mo_total 5 = .ok (.iload_n 1, 1) := by decide +kernel
theorem d_Mo_total_6 : decode c_Mo_total 6 = .ok (.iconst 3, 1) := by decide +kernel
theorem d_Mo_total_7 : decode c_Mo_total 7 = .ok (.if_icmp .le 7, 3) := by decide +kernel
theorem d_Mo_total_10 : decode c_Mo_total 10 = .ok (.iconst 1, 1) := by decide +kernel
theorem d_Mo_total_11 : decode c_Mo_total 11 = .ok (.goto 4, 3) := by decide +kernel
theorem d_Mo_total_14 : decode c_Mo_total 14 = .ok (.iconst 0, 1) := by decide +kernel
theorem d_Mo_total_15 : decode c_Mo_total 15 = .ok (.putfield 55, 3) := by decide +kernel
theorem d_Mo_total_18 : decode c_Mo_total 18 = .ok (.aload_n 0, 1) := by decide +kernel
theorem d_Mo_total_19 : decode c_Mo_total 19 = .ok (.getfield 55, 3) := by decide +kernel
theorem d_Mo_total_22 : decode c_Mo_total 22 = .ok (.ifCond .eq 5, 3) := by decide +kernel
theorem d_Mo_total_25 : decode c_Mo_total 25 = .ok (.lconst 0, 1) := by decide +kernel
theorem d_Mo_total_26 : decode c_Mo_total 26 = .ok (.lreturn, 1) := by decide +kernel
theorem d_Mo_total_27 : decode c_Mo_total 27 = .ok (.aload_n 0, 1) := by decide +kernel
theorem d_Mo_total_28 : decode c_Mo_total 28 = .ok (.invokevirtual 179, 3) := by decide +kernel
theorem d_Mo_total_31 : decode c_Mo_total 31 = .ok (.iconst 0, 1) := by decide +kernel
theorem d_Mo_total_32 : decode c_Mo_total 32 = .ok (.istore_n 3, 1) := by decide +kernel
theorem d_Mo_total_33 : decode c_Mo_total 33 = .ok (.iconst 0, 1) := by decide +kernel
theorem d_Mo_total_34 : decode c_Mo_total 34 = .ok (.istore 4, 2) := by decide +kernel
theorem d_Mo_total_36 : decode c_Mo_total 36 = .ok (.iload 4, 2) := by decide +kernel
theorem d_Mo_total_38 : decode c_Mo_total 38 = .ok (.aload_n 0, 1) := by decide +kernel
theorem d_Mo_total_39 : decode c_Mo_total 39 = .ok (.invokevirtual 100, 3) := by decide +kernel
theorem d_Mo_total_42 : decode c_Mo_total 42 = .ok (.if_icmp .ge 30, 3) := by decide +kernel
theorem d_Mo_total_45 : decode c_Mo_total 45 = .ok (.iload_n 3, 1) := by decide +kernel
theorem d_Mo_total_46 : decode c_Mo_total 46 = .ok (.ifCond .ne 14, 3) := by decide +kernel
theorem d_Mo_total_49 : decode c_Mo_total 49 = .ok (.aload_n 0, 1) := by decide +kernel
theorem d_Mo_total_50 : decode c_Mo_total 50 = .ok (.iload_n 1, 1) := by decide +kernel
theorem d_Mo_total_51 : decode c_Mo_total 51 = .ok (.iload 4, 2) := by decide +kernel
theorem d_Mo_total_53 : decode c_Mo_total 53 = .ok (.invokevirtual 189, 3) := by decide +kernel
theorem d_Mo_total_56 : decode c_Mo_total 56 = .ok (.iconst 2, 1) := by decide +kernel
theorem d_Mo_total_57 : decode c_Mo_total 57 = .ok (.if_icmp .ne 7, 3) := by decide +kernel
theorem d_Mo_total_60 : decode c_Mo_total 60 = .ok (.iconst 1, 1) := by decide +kernel
theorem d_Mo_total_61 : decode c_Mo_total 61 = .ok (.goto 4, 3) := by decide +kernel
theorem d_Mo_total_64 : decode c_Mo_total 64 = .ok (.iconst 0, 1) := by decide +kernel
theorem d_Mo_total_65 : decode c_Mo_total 65 = .ok (.istore_n 3, 1) := by decide +kernel
theorem d_Mo_total_66 : decode c_Mo_total 66 = .ok (.iinc 4 1, 3) := by decide +kernel
theorem d_Mo_total_69 : decode c_Mo_total 69 = .ok (.goto (-33), 3) := by decide +kernel
theorem d_Mo_total_72 : decode c_Mo_total 72 = .ok (.iload_n 3, 1) := by decide +kernel
theorem d_Mo_total_73 : decode c_Mo_total 73 = .ok (.ifCond .eq 10, 3) := by decide +kernel
theorem d_Mo_total_76 : decode c_Mo_total 76 = .ok (.aload_n 0, 1) := by decide +kernel
theorem d_Mo_total_77 : decode c_Mo_total 77 = .ok (.iconst 2, 1) := by decide +kernel
theorem d_Mo_total_78 : decode c_Mo_total 78 = .ok (.iload_n 2, 1) := by decide +kernel
theorem d_Mo_total_79 : decode c_Mo_total 79 = .ok (.invokevirtual 182, 3) := by decide +kernel
theorem d_Mo_total_82 : decode c_Mo_total 82 = .ok (.lreturn, 1) := by decide +kernel
theorem d_Mo_total_83 : decode c_Mo_total 83 = .ok (.lconst 0, 1) := by decide +kernel
theorem d_Mo_total_84 : decode c_Mo_total 84 = .ok (.lstore 4, 2) := by decide +kernel
theorem d_Mo_total_86 : decode c_Mo_total 86 = .ok (.lconst 1, 1) := by decide +kernel
theorem d_Mo_total_87 : decode c_Mo_total 87 = .ok (.lstore 6, 2) := by decide +kernel
theorem d_Mo_total_89 : decode c_Mo_total 89 = .ok (.iconst 0, 1) := by decide +kernel
theorem d_Mo_total_90 : decode c_Mo_total 90 = .ok (.istore 8, 2) := by decide +kernel
theorem d_Mo_total_92 : decode c_Mo_total 92 = .ok (.iload 8, 2) := by decide +kernel
theorem d_Mo_total_94 : decode c_Mo_total 94 = .ok (.aload_n 0, 1) := by decide +kernel
theorem d_Mo_total_95 : decode c_Mo_total 95 = .ok (.invokevirtual 100, 3) := by decide +kernel
theorem d_Mo_total_98 : decode c_Mo_total 98 = .ok (.if_icmp .ge 57, 3) := by decide +kernel
theorem d_Mo_total_101 : decode c_Mo_total 101 = .ok (.aload_n 0, 1) := by decide +kernel
theorem d_Mo_total_102 : decode c_Mo_total 102 = .ok (.iload_n 1, 1) := by decide +kernel
theorem d_Mo_total_103 : decode c_Mo_total 103 = .ok (.iload 8, 2) := by decide +kernel
theorem d_Mo_total_105 : decode c_Mo_total 105 = .ok (.invokevirtual 189, 3) := by decide +kernel
theorem d_Mo_total_108 : decode c_Mo_total 108 = .ok (.istore 9, 2) := by decide +kernel
theorem d_Mo_total_110 : decode c_Mo_total 110 = .ok (.aload_n 0, 1) := by decide +kernel
theorem d_Mo_total_111 : decode c_Mo_total 111 = .ok (.lload 4, 2) := by decide +kernel
theorem d_Mo_total_113 : decode c_Mo_total 113 = .ok (.lload 6, 2) := by decide +kernel
theorem d_Mo_total_115 : decode c_Mo_total 115 = .ok (.invokevirtual 173, 3) := by decide +kernel
theorem d_Mo_total_118 : decode c_Mo_total 118 = .ok (.iload 9, 2) := by decide +kernel
theorem d_Mo_total_120 : decode c_Mo_total 120 = .ok (.ifCond .ne 10, 3) := by decide +kernel
theorem d_Mo_total_123 : decode c_Mo_total 123 = .ok (.aload_n 0, 1) := by decide +kernel
theorem d_Mo_total_124 : decode c_Mo_total 124 = .ok (.getfield 97, 3) := by decide +kernel
theorem d_Mo_total_127 : decode c_Mo_total 127 = .ok (.ifCond .eq 10, 3) := by decide +kernel
theorem d_Mo_total_130 : decode c_Mo_total 130 = .ok (.aload_n 0, 1) := by decide +kernel
theorem d_Mo_total_131 : decode c_Mo_total 131 = .ok (.iconst 3, 1) := by decide +kernel
theorem d_Mo_total_132 : decode c_Mo_total 132 = .ok (.iload_n 2, 1) := by decide +kernel
theorem d_Mo_total_133 : decode c_Mo_total 133 = .ok (.invokevirtual 182, 3) := by decide +kernel
theorem d_Mo_total_136 : decode c_Mo_total 136 = .ok (.lreturn, 1) := by decide +kernel
theorem d_Mo_total_137 : decode c_Mo_total 137 = .ok (.aload_n 0, 1) := by decide +kernel
theorem d_Mo_total_138 : decode c_Mo_total 138 = .ok (.getfield 114, 3) := by decide +kernel
theorem d_Mo_total_141 : decode c_Mo_total 141 = .ok (.lstore 4, 2) := by decide +kernel
theorem d_Mo_total_143 : decode c_Mo_total 143 = .ok (.aload_n 0, 1) := by decide +kernel
theorem d_Mo_total_144 : decode c_Mo_total 144 = .ok (.getfield 118, 3) := by decide +kernel
theorem d_Mo_total_147 : decode c_Mo_total 147 = .ok (.lstore 6, 2) := by decide +kernel
theorem d_Mo_total_149 : decode c_Mo_total 149 = .ok (.iinc 8 1, 3) := by decide +kernel
theorem d_Mo_total_152 : decode c_Mo_total 152 = .ok (.goto (-60), 3) := by decide +kernel
theorem d_Mo_total_155 : decode c_Mo_total 155 = .ok (.aload_n 0, 1) := by decide +kernel
theorem d_Mo_total_156 : decode c_Mo_total 156 = .ok (.lload 4, 2) := by decide +kernel
theorem d_Mo_total_158 : decode c_Mo_total 158 = .ok (.lload 6, 2) := by decide +kernel
theorem d_Mo_total_160 : decode c_Mo_total 160 = .ok (.invokevirtual 125, 3) := by decide +kernel
theorem d_Mo_total_163 : decode c_Mo_total 163 = .ok (.aload_n 0, 1) := by decide +kernel
theorem d_Mo_total_164 : decode c_Mo_total 164 = .ok (.iconst 0, 1) := by decide +kernel
theorem d_Mo_total_165 : decode c_Mo_total 165 = .ok (.iload_n 2, 1) := by decide +kernel
theorem d_Mo_total_166 : decode c_Mo_total 166 = .ok (.invokevirtual 182, 3) := by decide +kernel
theorem d_Mo_total_169 : decode c_Mo_total 169 = .ok (.lreturn, 1) := by decide +kernel
set_option maxHeartbeats 4000000 in
set_option maxRecDepth 100000 in
theorem s_Mo_total (l : Launch) (g : Gx) (ws0 : va_W) (sz : Nat) {s : MS} {a1 : Int32} {a2 : Int32} {res : (Int64 × MS)} (hR : ms_Rel g ws0 ws0 s) (h : fn_Mo_total s a1 a2 = some res) : ct_ML l y_Mo_total c_Mo_total 10 (some .long) rm_Mo_total g ws0 sz [.ref (g.2.1 35), .int a1, .int a2] res.1 (fun u => ms_Rel g ws0 u res.2) := by
  refine ct_startl (by decide +kernel) (Nat.le_of_ble_eq_true rfl) (fun p e sv m args below meth c ls Q A H locs C0 hret hl hw => ?_)
  have hx := C0.1
  have hb := C0.2.1
  have hown := C0.2.2.2.1
  have hts := C0.2.2.2.2.1
  have hl : lv_has ls 10 [(0, .ref (g.2.1 35)), (1, .int a1), (2, .int a2)] := hl
  have L92 : ∀ (n92 : Nat) (ws : va_W) (H : Heap) (locs : List Loc) (ls : Array Slot) (s : MS) (v4 : Int64) (v6 : Int64) (v8 : Int32), ct_Wd g A sv ws H locs → ms_Rel g ws0 ws s → lv_has ls 10 [(0, .ref (g.2.1 35)), (1, .int a1), (2, .int a2), (4, .long v4), (6, .long v6), (8, .int v8)] → bk_Mo_total_92 a1 a2 n92 s v4 v6 v8 = some res → W p l e rm_Mo_total sv m args below meth c H locs 0 0 Q (F0 m 92 ls []) := by
    intro n92
    induction n92 with
    | zero =>
      intro ws H locs ls s v4 v6 v8 hw hR hl h
      exact absurd h (by simp [bk_Mo_total_92])
    | succ n92 ih92 =>
      have J130 : ∀ (ws : va_W) (H : Heap) (locs : List Loc) (ls : Array Slot) (s : MS), ct_Wd g A sv ws H locs → ms_Rel g ws0 ws s → lv_has ls 10 [(0, .ref (g.2.1 35)), (2, .int a2)] → bk_Mo_total_130 a1 a2 (bk_Mo_total_92 a1 a2 n92) s = some res → W p l e rm_Mo_total sv m args below meth c H locs 0 0 Q (F0 m 130 ls []) := by
        intro ws H locs ls s hw hR hl h
        unfold bk_Mo_total_130 at h
        refine lv_aload_n hx hb d_Mo_total_130 rfl (lv_at hl 0 rfl) ?_
        refine lv_iconst (v := 3) hx hb d_Mo_total_131 (by decide) ?_
        refine lv_iload_n hx hb d_Mo_total_132 rfl (lv_at hl 1 rfl) ?_
        obtain ⟨x1, s2, ho, h⟩ := ct_ob2_some h
        refine ct_callVl C0 hw hl.1 (q0 := 35) (hR.1 35 (by decide) (by decide)) rfl (ct_giV wd_898 wd_900 sel_Mo_told wd_7 wd_901) (fun sz => s_Mo_told l g ws sz hR.rf ho) (nA := 2) (rm := rm_Mo_told) (by decide +kernel) rfl ⟨rfl, rfl⟩ (by decide) (by decide) (As := [.int 3, .int a2]) (rest := []) rfl (Nat.le_of_ble_eq_true rfl) d_Mo_total_133 (fun ws1 H locs hw hp => ?_)
        have hR := hR.trans hp
        clear hp
        generalize ws1 = ws at hw hR
        obtain rfl := Option.some.inj h
        exact hret hw hR d_Mo_total_136
      intro ws H locs ls s v4 v6 v8 hw hR hl h
      have h : bk_Mo_total_92_o a1 a2 (bk_Mo_total_92 a1 a2 n92) s v4 v6 v8 = some res := h
      unfold bk_Mo_total_92_o at h
      refine lv_iload hx hb d_Mo_total_92 (lv_at hl 5 rfl) ?_
      refine lv_aload_n hx hb d_Mo_total_94 rfl (lv_at hl 0 rfl) ?_
      obtain ⟨x3, ho, h⟩ := ct_ob_some h
      refine ct_callVi C0 hw hl.1 (q0 := 35) (hR.1 35 (by decide) (by decide)) rfl (ct_giV wd_846 wd_848 sel_Mo_left wd_7 wd_849) (fun sz => s_Mo_left l g ws sz hR.rf ho) (nA := 0) (rm := rm_Mo_left) (by decide +kernel) rfl ⟨rfl, rfl⟩ (by decide) (by decide) (As := []) (rest := [.int v8]) rfl (Nat.le_of_ble_eq_true rfl) d_Mo_total_95 (fun ws1 H locs hw hp => ?_)
      rw [hp] at hw
      clear hp
      refine lv_icmp_ge hx hb (tgt := 155) d_Mo_total_98 (by decide) (fun hc9 => ?_) (fun hc9 => ?_)
      · rw [if_pos hc9] at h
        refine lv_aload_n hx hb d_Mo_total_155 rfl (lv_at hl 0 rfl) ?_
        refine lv_lload hx hb d_Mo_total_156 (lv_at hl 3 rfl) ?_
        refine lv_lload hx hb d_Mo_total_158 (lv_at hl 4 rfl) ?_
        obtain ⟨s4, ho, h⟩ := ct_ob_some h
        refine ct_callVv C0 hw hl.1 (q0 := 35) (hR.1 35 (by decide) (by decide)) rfl (ct_giV wd_894 wd_896 sel_Mo_set wd_7 wd_897) (fun sz => s_Mo_set l g ws sz hR.rf ho) (nA := 2) (rm := rm_Mo_set) (by decide +kernel) rfl ⟨rfl, rfl⟩ (by decide) (by decide) (As := [.long v4, .long v6]) (rest := []) rfl (Nat.le_of_ble_eq_true rfl) d_Mo_total_160 (fun ws1 H locs hw hp => ?_)
        have hR := hR.trans hp
        clear hp
        generalize ws1 = ws at hw hR
        refine lv_aload_n hx hb d_Mo_total_163 rfl (lv_at hl 0 rfl) ?_
        refine lv_iconst (v := 0) hx hb d_Mo_total_164 (by decide) ?_
        refine lv_iload_n hx hb d_Mo_total_165 rfl (lv_at hl 2 rfl) ?_
        obtain ⟨x5, s6, ho, h⟩ := ct_ob2_some h
        refine ct_callVl C0 hw hl.1 (q0 := 35) (hR.1 35 (by decide) (by decide)) rfl (ct_giV wd_898 wd_900 sel_Mo_told wd_7 wd_901) (fun sz => s_Mo_told l g ws sz hR.rf ho) (nA := 2) (rm := rm_Mo_told) (by decide +kernel) rfl ⟨rfl, rfl⟩ (by decide) (by decide) (As := [.int 0, .int a2]) (rest := []) rfl (Nat.le_of_ble_eq_true rfl) d_Mo_total_166 (fun ws1 H locs hw hp => ?_)
        have hR := hR.trans hp
        clear hp
        generalize ws1 = ws at hw hR
        obtain rfl := Option.some.inj h
        exact hret hw hR d_Mo_total_169
      · rw [if_neg hc9] at h
        refine lv_aload_n hx hb d_Mo_total_101 rfl (lv_at hl 0 rfl) ?_
        refine lv_iload_n hx hb d_Mo_total_102 rfl (lv_at hl 1 rfl) ?_
        refine lv_iload hx hb d_Mo_total_103 (lv_at hl 5 rfl) ?_
        obtain ⟨x7, s8, ho, h⟩ := ct_ob2_some h
        refine ct_callVi C0 hw hl.1 (q0 := 35) (hR.1 35 (by decide) (by decide)) rfl (ct_giV wd_956 wd_958 sel_Mo_workReserve wd_7 wd_959) (fun sz => s_Mo_workReserve l g ws sz hR.rf ho) (nA := 2) (rm := rm_Mo_workReserve) (by decide +kernel) rfl ⟨rfl, rfl⟩ (by decide) (by decide) (As := [.int a1, .int v8]) (rest := []) rfl (Nat.le_of_ble_eq_true rfl) d_Mo_total_105 (fun ws1 H locs hw hp => ?_)
        have hR := hR.trans hp
        clear hp
        generalize ws1 = ws at hw hR
        refine lv_istore (lv' := [(9, .int x7), (0, .ref (g.2.1 35)), (1, .int a1), (2, .int a2), (4, .long v4), (6, .long v6), (8, .int v8)]) hx hb d_Mo_total_108 hl (by decide) rfl (fun ls hl => ?_)
        refine lv_aload_n hx hb d_Mo_total_110 rfl (lv_at hl 1 rfl) ?_
        refine lv_lload hx hb d_Mo_total_111 (lv_at hl 4 rfl) ?_
        refine lv_lload hx hb d_Mo_total_113 (lv_at hl 5 rfl) ?_
        obtain ⟨s9, ho, h⟩ := ct_ob_some h
        refine ct_callVv C0 hw hl.1 (q0 := 35) (hR.1 35 (by decide) (by decide)) rfl (ct_giV wd_947 wd_949 sel_Mo_plus wd_7 wd_950) (fun sz => s_Mo_plus l g ws sz hR.rf ho) (nA := 2) (rm := rm_Mo_plus) (by decide +kernel) rfl ⟨rfl, rfl⟩ (by decide) (by decide) (As := [.long v4, .long v6]) (rest := []) rfl (Nat.le_of_ble_eq_true rfl) d_Mo_total_115 (fun ws1 H locs hw hp => ?_)
        have hR := hR.trans hp
        clear hp
        generalize ws1 = ws at hw hR
        refine lv_iload hx hb d_Mo_total_118 (lv_at hl 0 rfl) ?_
        refine lv_if_ne hx hb (tgt := 130) d_Mo_total_120 (by decide) (fun hc9 => ?_) (fun hc9 => ?_)
        · rw [if_pos hc9] at h
          exact J130 ws H locs ls s9 hw hR (lv_sub hl [1, 3] rfl) h
        · rw [if_neg (fun q => q hc9)] at h
          refine lv_aload_n hx hb d_Mo_total_123 rfl (lv_at hl 1 rfl) ?_
          refine gf_Mo_97 C0 hw hR d_Mo_total_124 ?_
          refine lv_if_eq hx hb (tgt := 137) d_Mo_total_127 (by decide) (fun hc9 => ?_) (fun hc9 => ?_)
          · rw [if_pos hc9] at h
            refine lv_aload_n hx hb d_Mo_total_137 rfl (lv_at hl 1 rfl) ?_
            refine gf_Mo_114 C0 hw hR d_Mo_total_138 ?_
            refine lv_topl (fun x10 e9 => ?_)
            have h := ct_nm_at h e9
            clear e9
            refine lv_lstore (lv' := [(4, .long x10), (9, .int x7), (0, .ref (g.2.1 35)), (1, .int a1), (2, .int a2), (6, .long v6), (8, .int v8)]) hx hb d_Mo_total_141 hl (by decide) rfl (fun ls hl => ?_)
            refine lv_aload_n hx hb d_Mo_total_143 rfl (lv_at hl 2 rfl) ?_
            refine gf_Mo_118 C0 hw hR d_Mo_total_144 ?_
            refine lv_topl (fun x11 e9 => ?_)
            have h := ct_nm_at h e9
            clear e9
            refine lv_lstore (lv' := [(6, .long x11), (4, .long x10), (9, .int x7), (0, .ref (g.2.1 35)), (1, .int a1), (2, .int a2), (8, .int v8)]) hx hb d_Mo_total_147 hl (by decide) rfl (fun ls hl => ?_)
            refine lv_iinc (v := v8 + 1) (k := 6) (lv' := [(8, .int (v8 + 1)), (6, .long x11), (4, .long x10), (9, .int x7), (0, .ref (g.2.1 35)), (1, .int a1), (2, .int a2)]) hx hb d_Mo_total_149 hl rfl rfl (by decide) rfl (fun ls hl => ?_)
            refine lv_goto hx hb (tgt := 92) d_Mo_total_152 (by decide) ?_
            exact ih92 ws H locs ls s9 x10 x11 (v8 + 1) hw hR (lv_sub hl [4, 5, 6, 2, 1, 0] rfl) h
          · rw [if_neg hc9] at h
            exact J130 ws H locs ls s9 hw hR (lv_sub hl [1, 3] rfl) h
  have L36 : ∀ (n36 : Nat) (ws : va_W) (H : Heap) (locs : List Loc) (ls : Array Slot) (s : MS) (v3 : Int32) (v4 : Int32), ct_Wd g A sv ws H locs → ms_Rel g ws0 ws s → lv_has ls 10 [(0, .ref (g.2.1 35)), (1, .int a1), (2, .int a2), (3, .int v3), (4, .int v4)] → bk_Mo_total_36 a1 a2 n36 s v3 v4 = some res → W p l e rm_Mo_total sv m args below meth c H locs 0 0 Q (F0 m 36 ls []) := by
    intro n36
    induction n36 with
    | zero =>
      intro ws H locs ls s v3 v4 hw hR hl h
      exact absurd h (by simp [bk_Mo_total_36])
    | succ n36 ih36 =>
      have J65 : ∀ (ws : va_W) (H : Heap) (locs : List Loc) (ls : Array Slot) (s : MS) (t0 : Int32) (v4 : Int32), ct_Wd g A sv ws H locs → ms_Rel g ws0 ws s → lv_has ls 10 [(0, .ref (g.2.1 35)), (1, .int a1), (2, .int a2), (4, .int v4)] → bk_Mo_total_65 a1 a2 (bk_Mo_total_36 a1 a2 n36) s t0 v4 = some res → W p l e rm_Mo_total sv m args below meth c H locs 0 0 Q (F0 m 65 ls [.int t0]) := by
        intro ws H locs ls s t0 v4 hw hR hl h
        unfold bk_Mo_total_65 at h
        refine lv_istore_n (lv' := [(3, .int t0), (0, .ref (g.2.1 35)), (1, .int a1), (2, .int a2), (4, .int v4)]) hx hb d_Mo_total_65 rfl hl (by decide) rfl (fun ls hl => ?_)
        refine lv_iinc (v := v4 + 1) (k := 4) (lv' := [(4, .int (v4 + 1)), (3, .int t0), (0, .ref (g.2.1 35)), (1, .int a1), (2, .int a2)]) hx hb d_Mo_total_66 hl rfl rfl (by decide) rfl (fun ls hl => ?_)
        refine lv_goto hx hb (tgt := 36) d_Mo_total_69 (by decide) ?_
        exact ih36 ws H locs ls s t0 (v4 + 1) hw hR (lv_sub hl [2, 3, 4, 1, 0] rfl) h
      intro ws H locs ls s v3 v4 hw hR hl h
      have h : bk_Mo_total_36_o a1 a2 (bk_Mo_total_36 a1 a2 n36) s v3 v4 = some res := h
      unfold bk_Mo_total_36_o at h
      refine lv_iload hx hb d_Mo_total_36 (lv_at hl 4 rfl) ?_
      refine lv_aload_n hx hb d_Mo_total_38 rfl (lv_at hl 0 rfl) ?_
      obtain ⟨x12, ho, h⟩ := ct_ob_some h
      refine ct_callVi C0 hw hl.1 (q0 := 35) (hR.1 35 (by decide) (by decide)) rfl (ct_giV wd_846 wd_848 sel_Mo_left wd_7 wd_849) (fun sz => s_Mo_left l g ws sz hR.rf ho) (nA := 0) (rm := rm_Mo_left) (by decide +kernel) rfl ⟨rfl, rfl⟩ (by decide) (by decide) (As := []) (rest := [.int v4]) rfl (Nat.le_of_ble_eq_true rfl) d_Mo_total_39 (fun ws1 H locs hw hp => ?_)
      rw [hp] at hw
      clear hp
      refine lv_icmp_ge hx hb (tgt := 72) d_Mo_total_42 (by decide) (fun hc9 => ?_) (fun hc9 => ?_)
      · rw [if_pos hc9] at h
        refine lv_iload_n hx hb d_Mo_total_72 rfl (lv_at hl 3 rfl) ?_
        refine lv_if_eq hx hb (tgt := 83) d_Mo_total_73 (by decide) (fun hc9 => ?_) (fun hc9 => ?_)
        · rw [if_pos hc9] at h
          refine lv_lconst (v := 0) hx hb d_Mo_total_83 (by decide) ?_
          refine lv_lstore (lv' := [(4, .long 0), (0, .ref (g.2.1 35)), (1, .int a1), (2, .int a2), (3, .int v3)]) hx hb d_Mo_total_84 hl (by decide) rfl (fun ls hl => ?_)
          refine lv_lconst (v := 1) hx hb d_Mo_total_86 (by decide) ?_
          refine lv_lstore (lv' := [(6, .long 1), (4, .long 0), (0, .ref (g.2.1 35)), (1, .int a1), (2, .int a2), (3, .int v3)]) hx hb d_Mo_total_87 hl (by decide) rfl (fun ls hl => ?_)
          refine lv_iconst (v := 0) hx hb d_Mo_total_89 (by decide) ?_
          refine lv_istore (lv' := [(8, .int 0), (6, .long 1), (4, .long 0), (0, .ref (g.2.1 35)), (1, .int a1), (2, .int a2), (3, .int v3)]) hx hb d_Mo_total_90 hl (by decide) rfl (fun ls hl => ?_)
          exact L92 200 ws H locs ls s 0 1 0 hw hR (lv_sub hl [3, 4, 5, 2, 1, 0] rfl) h
        · rw [if_neg hc9] at h
          refine lv_aload_n hx hb d_Mo_total_76 rfl (lv_at hl 0 rfl) ?_
          refine lv_iconst (v := 2) hx hb d_Mo_total_77 (by decide) ?_
          refine lv_iload_n hx hb d_Mo_total_78 rfl (lv_at hl 2 rfl) ?_
          obtain ⟨x13, s14, ho, h⟩ := ct_ob2_some h
          refine ct_callVl C0 hw hl.1 (q0 := 35) (hR.1 35 (by decide) (by decide)) rfl (ct_giV wd_898 wd_900 sel_Mo_told wd_7 wd_901) (fun sz => s_Mo_told l g ws sz hR.rf ho) (nA := 2) (rm := rm_Mo_told) (by decide +kernel) rfl ⟨rfl, rfl⟩ (by decide) (by decide) (As := [.int 2, .int a2]) (rest := []) rfl (Nat.le_of_ble_eq_true rfl) d_Mo_total_79 (fun ws1 H locs hw hp => ?_)
          have hR := hR.trans hp
          clear hp
          generalize ws1 = ws at hw hR
          obtain rfl := Option.some.inj h
          exact hret hw hR d_Mo_total_82
      · rw [if_neg hc9] at h
        refine lv_iload_n hx hb d_Mo_total_45 rfl (lv_at hl 3 rfl) ?_
        refine lv_if_ne hx hb (tgt := 60) d_Mo_total_46 (by decide) (fun hc9 => ?_) (fun hc9 => ?_)
        · rw [if_pos hc9] at h
          refine lv_iconst (v := 1) hx hb d_Mo_total_60 (by decide) ?_
          refine lv_goto hx hb (tgt := 65) d_Mo_total_61 (by decide) ?_
          exact J65 ws H locs ls s 1 v4 hw hR (lv_sub hl [0, 1, 2, 4] rfl) h
        · rw [if_neg (fun q => q hc9)] at h
          refine lv_aload_n hx hb d_Mo_total_49 rfl (lv_at hl 0 rfl) ?_
          refine lv_iload_n hx hb d_Mo_total_50 rfl (lv_at hl 1 rfl) ?_
          refine lv_iload hx hb d_Mo_total_51 (lv_at hl 4 rfl) ?_
          obtain ⟨x15, s16, ho, h⟩ := ct_ob2_some h
          refine ct_callVi C0 hw hl.1 (q0 := 35) (hR.1 35 (by decide) (by decide)) rfl (ct_giV wd_956 wd_958 sel_Mo_workReserve wd_7 wd_959) (fun sz => s_Mo_workReserve l g ws sz hR.rf ho) (nA := 2) (rm := rm_Mo_workReserve) (by decide +kernel) rfl ⟨rfl, rfl⟩ (by decide) (by decide) (As := [.int a1, .int v4]) (rest := []) rfl (Nat.le_of_ble_eq_true rfl) d_Mo_total_53 (fun ws1 H locs hw hp => ?_)
          have hR := hR.trans hp
          clear hp
          generalize ws1 = ws at hw hR
          refine lv_iconst (v := 2) hx hb d_Mo_total_56 (by decide) ?_
          refine lv_icmp_ne hx hb (tgt := 64) d_Mo_total_57 (by decide) (fun hc9 => ?_) (fun hc9 => ?_)
          · rw [if_pos hc9] at h
            refine lv_iconst (v := 0) hx hb d_Mo_total_64 (by decide) ?_
            exact J65 ws H locs ls s16 0 v4 hw hR (lv_sub hl [0, 1, 2, 4] rfl) h
          · rw [if_neg (fun q => q hc9)] at h
            refine lv_iconst (v := 1) hx hb d_Mo_total_60 (by decide) ?_
            refine lv_goto hx hb (tgt := 65) d_Mo_total_61 (by decide) ?_
            exact J65 ws H locs ls s16 1 v4 hw hR (lv_sub hl [0, 1, 2, 4] rfl) h
  have J15 : ∀ (ws : va_W) (H : Heap) (locs : List Loc) (ls : Array Slot) (s : MS) (t1 : Int32), ct_Wd g A sv ws H locs → ms_Rel g ws0 ws s → lv_has ls 10 [(0, .ref (g.2.1 35)), (1, .int a1), (2, .int a2)] → bk_Mo_total_15 a1 a2 s t1 = some res → W p l e rm_Mo_total sv m args below meth c H locs 0 0 Q (F0 m 15 ls [.int t1, .ref (g.2.1 35)]) := by
    intro ws H locs ls s t1 hw hR hl h
    unfold bk_Mo_total_15 at h
    refine pf_Mo_55 C0 hw hR d_Mo_total_15 (fun ws H locs hw hR => ?_)
    obtain ⟨s17, es9, h⟩ := ct_nm_ex h
    rw [← es9] at hR
    clear es9
    refine lv_aload_n hx hb d_Mo_total_18 rfl (lv_at hl 0 rfl) ?_
    refine gf_Mo_55 C0 hw hR d_Mo_total_19 ?_
    refine lv_if_eq hx hb (tgt := 27) d_Mo_total_22 (by decide) (fun hc9 => ?_) (fun hc9 => ?_)
    · rw [if_pos hc9] at h
      refine lv_aload_n hx hb d_Mo_total_27 rfl (lv_at hl 0 rfl) ?_
      obtain ⟨s18, ho, h⟩ := ct_ob_some h
      refine ct_callVv C0 hw hl.1 (q0 := 35) (hR.1 35 (by decide) (by decide)) rfl (ct_giV wd_878 wd_880 sel_Mo_look wd_7 wd_881) (fun sz => s_Mo_look l g ws sz hR.rf ho) (nA := 0) (rm := rm_Mo_look) (by decide +kernel) rfl ⟨rfl, rfl⟩ (by decide) (by decide) (As := []) (rest := []) rfl (Nat.le_of_ble_eq_true rfl) d_Mo_total_28 (fun ws1 H locs hw hp => ?_)
      have hR := hR.trans hp
      clear hp
      generalize ws1 = ws at hw hR
      refine lv_iconst (v := 0) hx hb d_Mo_total_31 (by decide) ?_
      refine lv_istore_n (lv' := [(3, .int 0), (0, .ref (g.2.1 35)), (1, .int a1), (2, .int a2)]) hx hb d_Mo_total_32 rfl hl (by decide) rfl (fun ls hl => ?_)
      refine lv_iconst (v := 0) hx hb d_Mo_total_33 (by decide) ?_
      refine lv_istore (lv' := [(4, .int 0), (3, .int 0), (0, .ref (g.2.1 35)), (1, .int a1), (2, .int a2)]) hx hb d_Mo_total_34 hl (by decide) rfl (fun ls hl => ?_)
      exact L36 200 ws H locs ls s18 0 0 hw hR (lv_sub hl [2, 3, 4, 1, 0] rfl) h
    · rw [if_neg hc9] at h
      refine lv_lconst (v := 0) hx hb d_Mo_total_25 (by decide) ?_
      obtain rfl := Option.some.inj h
      exact hret hw hR d_Mo_total_26
  unfold fn_Mo_total at h
  obtain ⟨ws, hwe⟩ : ∃ z : va_W, z = ws0 := ⟨_, rfl⟩
  rw [← hwe] at hw
  have hR : ms_Rel g ws0 ws s := by rw [hwe]; exact hR
  clear hwe
  refine lv_aload_n hx hb d_Mo_total_0 rfl (lv_at hl 0 rfl) ?_
  refine lv_iload_n hx hb d_Mo_total_1 rfl (lv_at hl 1 rfl) ?_
  refine lv_if_lt hx hb (tgt := 10) d_Mo_total_2 (by decide) (fun hc9 => ?_) (fun hc9 => ?_)
  · rw [if_pos hc9] at h
    refine lv_iconst (v := 1) hx hb d_Mo_total_10 (by decide) ?_
    refine lv_goto hx hb (tgt := 15) d_Mo_total_11 (by decide) ?_
    exact J15 ws H locs ls s 1 hw hR (lv_sub hl [0, 1, 2] rfl) h
  · rw [if_neg hc9] at h
    refine lv_iload_n hx hb d_Mo_total_5 rfl (lv_at hl 1 rfl) ?_
    refine lv_iconst (v := 3) hx hb d_Mo_total_6 (by decide) ?_
    refine lv_icmp_le hx hb (tgt := 14) d_Mo_total_7 (by decide) (fun hc9 => ?_) (fun hc9 => ?_)
    · rw [if_pos hc9] at h
      refine lv_iconst (v := 0) hx hb d_Mo_total_14 (by decide) ?_
      exact J15 ws H locs ls s 0 hw hR (lv_sub hl [0, 1, 2] rfl) h
    · rw [if_neg hc9] at h
      refine lv_iconst (v := 1) hx hb d_Mo_total_10 (by decide) ?_
      refine lv_goto hx hb (tgt := 15) d_Mo_total_11 (by decide) ?_
      exact J15 ws H locs ls s 1 hw hR (lv_sub hl [0, 1, 2] rfl) h

theorem d_Mo_marks_0 : decode c_Mo_marks 0 = .ok (.aload_n 0, 1) := by decide +kernel
theorem d_Mo_marks_1 : decode c_Mo_marks 1 = .ok (.iload_n 1, 1) := by decide +kernel
theorem d_Mo_marks_2 : decode c_Mo_marks 2 = .ok (.ifCond .lt 8, 3) := by decide +kernel
theorem d_Mo_marks_5 : decode c_Mo_marks 5 = .ok (.iload_n 1, 1) := by decide +kernel
theorem d_Mo_marks_6 : decode c_Mo_marks 6 = .ok (.iconst 3, 1) := by decide +kernel
theorem d_Mo_marks_7 : decode c_Mo_marks 7 = .ok (.if_icmp .le 7, 3) := by decide +kernel
theorem d_Mo_marks_10 : decode c_Mo_marks 10 = .ok (.iconst 1, 1) := by decide +kernel
theorem d_Mo_marks_11 : decode c_Mo_marks 11 = .ok (.goto 4, 3) := by decide +kernel
theorem d_Mo_marks_14 : decode c_Mo_marks 14 = .ok (.iconst 0, 1) := by decide +kernel
theorem d_Mo_marks_15 : decode c_Mo_marks 15 = .ok (.putfield 55, 3) := by decide +kernel
theorem d_Mo_marks_18 : decode c_Mo_marks 18 = .ok (.aload_n 0, 1) := by decide +kernel
theorem d_Mo_marks_19 : decode c_Mo_marks 19 = .ok (.getfield 55, 3) := by decide +kernel
theorem d_Mo_marks_22 : decode c_Mo_marks 22 = .ok (.ifCond .eq 5, 3) := by decide +kernel
theorem d_Mo_marks_25 : decode c_Mo_marks 25 = .ok (.iconst 0, 1) := by decide +kernel
theorem d_Mo_marks_26 : decode c_Mo_marks 26 = .ok (.ireturn, 1) := by decide +kernel
theorem d_Mo_marks_27 : decode c_Mo_marks 27 = .ok (.aload_n 0, 1) := by decide +kernel
theorem d_Mo_marks_28 : decode c_Mo_marks 28 = .ok (.invokevirtual 179, 3) := by decide +kernel
theorem d_Mo_marks_31 : decode c_Mo_marks 31 = .ok (.iconst 0, 1) := by decide +kernel
theorem d_Mo_marks_32 : decode c_Mo_marks 32 = .ok (.istore_n 2, 1) := by decide +kernel
theorem d_Mo_marks_33 : decode c_Mo_marks 33 = .ok (.iconst 0, 1) := by decide +kernel
theorem d_Mo_marks_34 : decode c_Mo_marks 34 = .ok (.istore_n 3, 1) := by decide +kernel
theorem d_Mo_marks_35 : decode c_Mo_marks 35 = .ok (.iload_n 3, 1) := by decide +kernel
theorem d_Mo_marks_36 : decode c_Mo_marks 36 = .ok (.aload_n 0, 1) := by decide +kernel
theorem d_Mo_marks_37 : decode c_Mo_marks 37 = .ok (.invokevirtual 100, 3) := by decide +kernel
theorem d_Mo_marks_40 : decode c_Mo_marks 40 = .ok (.if_icmp .ge 42, 3) := by decide +kernel
theorem d_Mo_marks_43 : decode c_Mo_marks 43 = .ok (.aload_n 0, 1) := by decide +kernel
theorem d_Mo_marks_44 : decode c_Mo_marks 44 = .ok (.iload_n 1, 1) := by decide +kernel
theorem d_Mo_marks_45 : decode c_Mo_marks 45 = .ok (.iload_n 3, 1) := by decide +kernel
theorem d_Mo_marks_46 : decode c_Mo_marks 46 = .ok (.invokevirtual 189, 3) := by decide +kernel
theorem d_Mo_marks_49 : decode c_Mo_marks 49 = .ok (.istore 4, 2) := by decide +kernel
theorem d_Mo_marks_51 : decode c_Mo_marks 51 = .ok (.iload_n 2, 1) := by decide +kernel
theorem d_Mo_marks_52 : decode c_Mo_marks 52 = .ok (.iload 4, 2) := by decide +kernel
theorem d_Mo_marks_54 : decode c_Mo_marks 54 = .ok (.iconst 2, 1) := by decide +kernel
theorem d_Mo_marks_55 : decode c_Mo_marks 55 = .ok (.if_icmp .ne 7, 3) := by decide +kernel
theorem d_Mo_marks_58 : decode c_Mo_marks 58 = .ok (.iconst 1, 1) := by decide +kernel
theorem d_Mo_marks_59 : decode c_Mo_marks 59 = .ok (.goto 15, 3) := by decide +kernel
theorem d_Mo_marks_62 : decode c_Mo_marks 62 = .ok (.iload 4, 2) := by decide +kernel
theorem d_Mo_marks_64 : decode c_Mo_marks 64 = .ok (.iconst 3, 1) := by decide +kernel
theorem d_Mo_marks_65 : decode c_Mo_marks 65 = .ok (.if_icmp .ne 8, 3) := by decide +kernel
theorem d_Mo_marks_68 : decode c_Mo_marks 68 = .ok (.bipush 10, 2) := by decide +kernel
theorem d_Mo_marks_70 : decode c_Mo_marks 70 = .ok (.goto 4, 3) := by decide +kernel
theorem d_Mo_marks_73 : decode c_Mo_marks 73 = .ok (.iconst 0, 1) := by decide +kernel
theorem d_Mo_marks_74 : decode c_Mo_marks 74 = .ok (.iadd, 1) := by decide +kernel
theorem d_Mo_marks_75 : decode c_Mo_marks 75 = .ok (.istore_n 2, 1) := by decide +kernel
theorem d_Mo_marks_76 : decode c_Mo_marks 76 = .ok (.iinc 3 1, 3) := by decide +kernel
theorem d_Mo_marks_79 : decode c_Mo_marks 79 = .ok (.goto (-44), 3) := by decide +kernel
theorem d_Mo_marks_82 : decode c_Mo_marks 82 = .ok (.iload_n 2, 1) := by decide +kernel
theorem d_Mo_marks_83 : decode c_Mo_marks 83 = .ok (.ireturn, 1) := by decide +kernel
set_option maxHeartbeats 4000000 in
set_option maxRecDepth 100000 in
theorem s_Mo_marks (l : Launch) (g : Gx) (ws0 : va_W) (sz : Nat) {s : MS} {a1 : Int32} {res : (Int32 × MS)} (hR : ms_Rel g ws0 ws0 s) (h : fn_Mo_marks s a1 = some res) : ct_MI l y_Mo_marks c_Mo_marks 5 (some .int) rm_Mo_marks g ws0 sz [.ref (g.2.1 35), .int a1] res.1 (fun u => ms_Rel g ws0 u res.2) := by
  refine ct_starti (by decide +kernel) (Nat.le_of_ble_eq_true rfl) (fun p e sv m args below meth c ls Q A H locs C0 hret hl hw => ?_)
  have hx := C0.1
  have hb := C0.2.1
  have hown := C0.2.2.2.1
  have hts := C0.2.2.2.2.1
  have hl : lv_has ls 5 [(0, .ref (g.2.1 35)), (1, .int a1)] := hl
  have L35 : ∀ (n35 : Nat) (ws : va_W) (H : Heap) (locs : List Loc) (ls : Array Slot) (s : MS) (v2 : Int32) (v3 : Int32), ct_Wd g A sv ws H locs → ms_Rel g ws0 ws s → lv_has ls 5 [(0, .ref (g.2.1 35)), (1, .int a1), (2, .int v2), (3, .int v3)] → bk_Mo_marks_35 a1 n35 s v2 v3 = some res → W p l e rm_Mo_marks sv m args below meth c H locs 0 0 Q (F0 m 35 ls []) := by
    intro n35
    induction n35 with
    | zero =>
      intro ws H locs ls s v2 v3 hw hR hl h
      exact absurd h (by simp [bk_Mo_marks_35])
    | succ n35 ih35 =>
      have J74 : ∀ (ws : va_W) (H : Heap) (locs : List Loc) (ls : Array Slot) (s : MS) (t0 : Int32) (t1 : Int32) (v3 : Int32), ct_Wd g A sv ws H locs → ms_Rel g ws0 ws s → lv_has ls 5 [(0, .ref (g.2.1 35)), (1, .int a1), (3, .int v3)] → bk_Mo_marks_74 a1 (bk_Mo_marks_35 a1 n35) s t0 t1 v3 = some res → W p l e rm_Mo_marks sv m args below meth c H locs 0 0 Q (F0 m 74 ls [.int t1, .int t0]) := by
        intro ws H locs ls s t0 t1 v3 hw hR hl h
        unfold bk_Mo_marks_74 at h
        refine lv_iadd hx hb d_Mo_marks_74 ?_
        refine lv_topi (fun x1 e9 => ?_)
        have h := ct_nm_at h e9
        clear e9
        refine lv_istore_n (lv' := [(2, .int x1), (0, .ref (g.2.1 35)), (1, .int a1), (3, .int v3)]) hx hb d_Mo_marks_75 rfl hl (by decide) rfl (fun ls hl => ?_)
        refine lv_iinc (v := v3 + 1) (k := 3) (lv' := [(3, .int (v3 + 1)), (2, .int x1), (0, .ref (g.2.1 35)), (1, .int a1)]) hx hb d_Mo_marks_76 hl rfl rfl (by decide) rfl (fun ls hl => ?_)
        refine lv_goto hx hb (tgt := 35) d_Mo_marks_79 (by decide) ?_
        exact ih35 ws H locs ls s x1 (v3 + 1) hw hR (lv_sub hl [2, 3, 1, 0] rfl) h
      intro ws H locs ls s v2 v3 hw hR hl h
      have h : bk_Mo_marks_35_o a1 (bk_Mo_marks_35 a1 n35) s v2 v3 = some res := h
      unfold bk_Mo_marks_35_o at h
      refine lv_iload_n hx hb d_Mo_marks_35 rfl (lv_at hl 3 rfl) ?_
      refine lv_aload_n hx hb d_Mo_marks_36 rfl (lv_at hl 0 rfl) ?_
      obtain ⟨x2, ho, h⟩ := ct_ob_some h
      refine ct_callVi C0 hw hl.1 (q0 := 35) (hR.1 35 (by decide) (by decide)) rfl (ct_giV wd_846 wd_848 sel_Mo_left wd_7 wd_849) (fun sz => s_Mo_left l g ws sz hR.rf ho) (nA := 0) (rm := rm_Mo_left) (by decide +kernel) rfl ⟨rfl, rfl⟩ (by decide) (by decide) (As := []) (rest := [.int v3]) rfl (Nat.le_of_ble_eq_true rfl) d_Mo_marks_37 (fun ws1 H locs hw hp => ?_)
      rw [hp] at hw
      clear hp
      refine lv_icmp_ge hx hb (tgt := 82) d_Mo_marks_40 (by decide) (fun hc9 => ?_) (fun hc9 => ?_)
      · rw [if_pos hc9] at h
        refine lv_iload_n hx hb d_Mo_marks_82 rfl (lv_at hl 2 rfl) ?_
        obtain rfl := Option.some.inj h
        exact hret hw hR d_Mo_marks_83
      · rw [if_neg hc9] at h
        refine lv_aload_n hx hb d_Mo_marks_43 rfl (lv_at hl 0 rfl) ?_
        refine lv_iload_n hx hb d_Mo_marks_44 rfl (lv_at hl 1 rfl) ?_
        refine lv_iload_n hx hb d_Mo_marks_45 rfl (lv_at hl 3 rfl) ?_
        obtain ⟨x3, s4, ho, h⟩ := ct_ob2_some h
        refine ct_callVi C0 hw hl.1 (q0 := 35) (hR.1 35 (by decide) (by decide)) rfl (ct_giV wd_956 wd_958 sel_Mo_workReserve wd_7 wd_959) (fun sz => s_Mo_workReserve l g ws sz hR.rf ho) (nA := 2) (rm := rm_Mo_workReserve) (by decide +kernel) rfl ⟨rfl, rfl⟩ (by decide) (by decide) (As := [.int a1, .int v3]) (rest := []) rfl (Nat.le_of_ble_eq_true rfl) d_Mo_marks_46 (fun ws1 H locs hw hp => ?_)
        have hR := hR.trans hp
        clear hp
        generalize ws1 = ws at hw hR
        refine lv_istore (lv' := [(4, .int x3), (0, .ref (g.2.1 35)), (1, .int a1), (2, .int v2), (3, .int v3)]) hx hb d_Mo_marks_49 hl (by decide) rfl (fun ls hl => ?_)
        refine lv_iload_n hx hb d_Mo_marks_51 rfl (lv_at hl 3 rfl) ?_
        refine lv_iload hx hb d_Mo_marks_52 (lv_at hl 0 rfl) ?_
        refine lv_iconst (v := 2) hx hb d_Mo_marks_54 (by decide) ?_
        refine lv_icmp_ne hx hb (tgt := 62) d_Mo_marks_55 (by decide) (fun hc9 => ?_) (fun hc9 => ?_)
        · rw [if_pos hc9] at h
          refine lv_iload hx hb d_Mo_marks_62 (lv_at hl 0 rfl) ?_
          refine lv_iconst (v := 3) hx hb d_Mo_marks_64 (by decide) ?_
          refine lv_icmp_ne hx hb (tgt := 73) d_Mo_marks_65 (by decide) (fun hc9 => ?_) (fun hc9 => ?_)
          · rw [if_pos hc9] at h
            refine lv_iconst (v := 0) hx hb d_Mo_marks_73 (by decide) ?_
            exact J74 ws H locs ls s4 v2 0 v3 hw hR (lv_sub hl [1, 2, 4] rfl) h
          · rw [if_neg (fun q => q hc9)] at h
            refine lv_bipush (v := 10) hx hb d_Mo_marks_68 (by decide) ?_
            refine lv_goto hx hb (tgt := 74) d_Mo_marks_70 (by decide) ?_
            exact J74 ws H locs ls s4 v2 10 v3 hw hR (lv_sub hl [1, 2, 4] rfl) h
        · rw [if_neg (fun q => q hc9)] at h
          refine lv_iconst (v := 1) hx hb d_Mo_marks_58 (by decide) ?_
          refine lv_goto hx hb (tgt := 74) d_Mo_marks_59 (by decide) ?_
          exact J74 ws H locs ls s4 v2 1 v3 hw hR (lv_sub hl [1, 2, 4] rfl) h
  have J15 : ∀ (ws : va_W) (H : Heap) (locs : List Loc) (ls : Array Slot) (s : MS) (t1 : Int32), ct_Wd g A sv ws H locs → ms_Rel g ws0 ws s → lv_has ls 5 [(0, .ref (g.2.1 35)), (1, .int a1)] → bk_Mo_marks_15 a1 s t1 = some res → W p l e rm_Mo_marks sv m args below meth c H locs 0 0 Q (F0 m 15 ls [.int t1, .ref (g.2.1 35)]) := by
    intro ws H locs ls s t1 hw hR hl h
    unfold bk_Mo_marks_15 at h
    refine pf_Mo_55 C0 hw hR d_Mo_marks_15 (fun ws H locs hw hR => ?_)
    obtain ⟨s5, es9, h⟩ := ct_nm_ex h
    rw [← es9] at hR
    clear es9
    refine lv_aload_n hx hb d_Mo_marks_18 rfl (lv_at hl 0 rfl) ?_
    refine gf_Mo_55 C0 hw hR d_Mo_marks_19 ?_
    refine lv_if_eq hx hb (tgt := 27) d_Mo_marks_22 (by decide) (fun hc9 => ?_) (fun hc9 => ?_)
    · rw [if_pos hc9] at h
      refine lv_aload_n hx hb d_Mo_marks_27 rfl (lv_at hl 0 rfl) ?_
      obtain ⟨s6, ho, h⟩ := ct_ob_some h
      refine ct_callVv C0 hw hl.1 (q0 := 35) (hR.1 35 (by decide) (by decide)) rfl (ct_giV wd_878 wd_880 sel_Mo_look wd_7 wd_881) (fun sz => s_Mo_look l g ws sz hR.rf ho) (nA := 0) (rm := rm_Mo_look) (by decide +kernel) rfl ⟨rfl, rfl⟩ (by decide) (by decide) (As := []) (rest := []) rfl (Nat.le_of_ble_eq_true rfl) d_Mo_marks_28 (fun ws1 H locs hw hp => ?_)
      have hR := hR.trans hp
      clear hp
      generalize ws1 = ws at hw hR
      refine lv_iconst (v := 0) hx hb d_Mo_marks_31 (by decide) ?_
      refine lv_istore_n (lv' := [(2, .int 0), (0, .ref (g.2.1 35)), (1, .int a1)]) hx hb d_Mo_marks_32 rfl hl (by decide) rfl (fun ls hl => ?_)
      refine lv_iconst (v := 0) hx hb d_Mo_marks_33 (by decide) ?_
      refine lv_istore_n (lv' := [(3, .int 0), (2, .int 0), (0, .ref (g.2.1 35)), (1, .int a1)]) hx hb d_Mo_marks_34 rfl hl (by decide) rfl (fun ls hl => ?_)
      exact L35 200 ws H locs ls s6 0 0 hw hR (lv_sub hl [2, 3, 1, 0] rfl) h
    · rw [if_neg hc9] at h
      refine lv_iconst (v := 0) hx hb d_Mo_marks_25 (by decide) ?_
      obtain rfl := Option.some.inj h
      exact hret hw hR d_Mo_marks_26
  unfold fn_Mo_marks at h
  obtain ⟨ws, hwe⟩ : ∃ z : va_W, z = ws0 := ⟨_, rfl⟩
  rw [← hwe] at hw
  have hR : ms_Rel g ws0 ws s := by rw [hwe]; exact hR
  clear hwe
  refine lv_aload_n hx hb d_Mo_marks_0 rfl (lv_at hl 0 rfl) ?_
  refine lv_iload_n hx hb d_Mo_marks_1 rfl (lv_at hl 1 rfl) ?_
  refine lv_if_lt hx hb (tgt := 10) d_Mo_marks_2 (by decide) (fun hc9 => ?_) (fun hc9 => ?_)
  · rw [if_pos hc9] at h
    refine lv_iconst (v := 1) hx hb d_Mo_marks_10 (by decide) ?_
    refine lv_goto hx hb (tgt := 15) d_Mo_marks_11 (by decide) ?_
    exact J15 ws H locs ls s 1 hw hR (lv_sub hl [0, 1] rfl) h
  · rw [if_neg hc9] at h
    refine lv_iload_n hx hb d_Mo_marks_5 rfl (lv_at hl 1 rfl) ?_
    refine lv_iconst (v := 3) hx hb d_Mo_marks_6 (by decide) ?_
    refine lv_icmp_le hx hb (tgt := 14) d_Mo_marks_7 (by decide) (fun hc9 => ?_) (fun hc9 => ?_)
    · rw [if_pos hc9] at h
      refine lv_iconst (v := 0) hx hb d_Mo_marks_14 (by decide) ?_
      exact J15 ws H locs ls s 0 hw hR (lv_sub hl [0, 1] rfl) h
    · rw [if_neg hc9] at h
      refine lv_iconst (v := 1) hx hb d_Mo_marks_10 (by decide) ?_
      refine lv_goto hx hb (tgt := 15) d_Mo_marks_11 (by decide) ?_
      exact J15 ws H locs ls s 1 hw hR (lv_sub hl [0, 1] rfl) h

