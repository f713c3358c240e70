theorem d_Mo_turn_0 : decode c_Mo_turn 0 = .ok (.aload_n 0, 1) := by decide +kernel
theorem d_Mo_turn_1 : decode c_Mo_turn 1 = .ok (.getfield 97, 3) := by decide +kernel
theorem d_Mo_turn_4 : decode c_Mo_turn 4 = .ok (.ifCond .ne 36, 3) := by decide +kernel
theorem d_Mo_turn_7 : decode c_Mo_turn 7 = .ok (.aload_n 0, 1) := by decide +kernel
theorem d_Mo_turn_8 : decode c_Mo_turn 8 = .ok (.aload_n 0, 1) := by decide +kernel
theorem d_Mo_turn_9 : decode c_Mo_turn 9 = .ok (.getfield 114, 3) := by decide +kernel
theorem d_Mo_turn_12 : decode c_Mo_turn 12 = .ok (.lconst 0, 1) := by decide +kernel
theorem d_Mo_turn_13 : decode c_Mo_turn 13 = .ok (.lcmp, 1) := by decide +kernel
theorem d_Mo_turn_14 : decode c_Mo_turn 14 = .ok (.ifCond .ge 11, 3) := by decide +kernel
theorem d_Mo_turn_17 : decode c_Mo_turn 17 = .ok (.aload_n 0, 1) := by decide +kernel
theorem d_Mo_turn_18 : decode c_Mo_turn 18 = .ok (.getfield 118, 3) := by decide +kernel
theorem d_Mo_turn_21 : decode c_Mo_turn 21 = .ok (.lneg, 1) := by decide +kernel
theorem d_Mo_turn_22 : decode c_Mo_turn 22 = .ok (.goto 7, 3) := by decide +kernel
theorem d_Mo_turn_25 : decode c_Mo_turn 25 = .ok (.aload_n 0, 1) := by decide +kernel
theorem d_Mo_turn_26 : decode c_Mo_turn 26 = .ok (.getfield 118, 3) := by decide +kernel
theorem d_Mo_turn_29 : decode c_Mo_turn 29 = .ok (.aload_n 0, 1) := by decide +kernel
theorem d_Mo_turn_30 : decode c_Mo_turn 30 = .ok (.aload_n 0, 1) := by decide +kernel
theorem d_Mo_turn_31 : decode c_Mo_turn 31 = .ok (.getfield 114, 3) := by decide +kernel
theorem d_Mo_turn_34 : decode c_Mo_turn 34 = .ok (.invokevirtual 108, 3) := by decide +kernel
theorem d_Mo_turn_37 : decode c_Mo_turn 37 = .ok (.invokevirtual 125, 3) := by decide +kernel
theorem d_Mo_turn_40 : decode c_Mo_turn 40 = .ok (.return_, 1) := by decide +kernel
set_option maxHeartbeats 4000000 in
set_option maxRecDepth 100000 in
theorem s_Mo_turn (l : Launch) (g : Gx) (ws0 : va_W) (sz : Nat) {s : MS} {res : MS} (hR : ms_Rel g ws0 ws0 s) (h : fn_Mo_turn s = some res) : ct_MV l y_Mo_turn c_Mo_turn 1 none rm_Mo_turn g ws0 sz [.ref (g.2.1 35)]  (fun u => ms_Rel g ws0 u res) := by
  refine ct_startv (by decide +kernel) (Nat.le_of_ble_eq_true rfl) (fun p e sv m args below meth c ls Q A H locs C0 hret hl hw => ?_)
  have hx := C0.1
  have hb := C0.2.1
  have hown := C0.2.2.2.1
  have hts := C0.2.2.2.2.1
  have hl : lv_has ls 1 [(0, .ref (g.2.1 35))] := hl
  have J29 : ∀ (ws : va_W) (H : Heap) (locs : List Loc) (ls : Array Slot) (s : MS) (t1 : Int64), ct_Wd g A sv ws H locs → ms_Rel g ws0 ws s → lv_has ls 1 [(0, .ref (g.2.1 35))] → bk_Mo_turn_29 s t1 = some res → W p l e rm_Mo_turn sv m args below meth c H locs 0 0 Q (F0 m 29 ls [.long t1, .ref (g.2.1 35)]) := by
    intro ws H locs ls s t1 hw hR hl h
    unfold bk_Mo_turn_29 at h
    refine lv_aload_n hx hb d_Mo_turn_29 rfl (lv_at hl 0 rfl) ?_
    refine lv_aload_n hx hb d_Mo_turn_30 rfl (lv_at hl 0 rfl) ?_
    refine gf_Mo_114 C0 hw hR d_Mo_turn_31 ?_
    obtain ⟨x1, ho, h⟩ := ct_ob_some h
    refine ct_callVl C0 hw hl.1 (q0 := 35) (hR.1 35 (by decide) (by decide)) rfl (ct_giV wd_890 wd_892 sel_Mo_size wd_7 wd_893) (fun sz => s_Mo_size l g ws sz ho) (nA := 1) (rm := rm_Mo_size) (by decide +kernel) rfl ⟨rfl, rfl⟩ (by decide) (by decide) (As := [.long (ms_L s 0)]) (rest := [.long t1, .ref (g.2.1 35)]) rfl (Nat.le_of_ble_eq_true rfl) d_Mo_turn_34 (fun ws1 H locs hw hp => ?_)
    rw [hp] at hw
    clear hp
    obtain ⟨s2, ho, h⟩ := ct_ob_some h
    refine ct_callVv C0 hw hl.1 (q0 := 35) (hR.1 35 (by decide) (by decide)) rfl (ct_giV wd_894 wd_896 sel_Mo_set wd_7 wd_897) (fun sz => s_Mo_set l g ws sz hR.rf ho) (nA := 2) (rm := rm_Mo_set) (by decide +kernel) rfl ⟨rfl, rfl⟩ (by decide) (by decide) (As := [.long t1, .long x1]) (rest := []) rfl (Nat.le_of_ble_eq_true rfl) d_Mo_turn_37 (fun ws1 H locs hw hp => ?_)
    have hR := hR.trans hp
    clear hp
    generalize ws1 = ws at hw hR
    obtain rfl := Option.some.inj h
    exact hret hw hR d_Mo_turn_40
  unfold fn_Mo_turn at h
  obtain ⟨ws, hwe⟩ : ∃ z : va_W, z = ws0 := ⟨_, rfl⟩
  rw [← hwe] at hw
  have hR : ms_Rel g ws0 ws s := by rw [hwe]; exact hR
  clear hwe
  refine lv_aload_n hx hb d_Mo_turn_0 rfl (lv_at hl 0 rfl) ?_
  refine gf_Mo_97 C0 hw hR d_Mo_turn_1 ?_
  refine lv_if_ne hx hb (tgt := 40) d_Mo_turn_4 (by decide) (fun hc9 => ?_) (fun hc9 => ?_)
  · rw [if_pos hc9] at h
    obtain rfl := Option.some.inj h
    exact hret hw hR d_Mo_turn_40
  · rw [if_neg (fun q => q hc9)] at h
    refine lv_aload_n hx hb d_Mo_turn_7 rfl (lv_at hl 0 rfl) ?_
    refine lv_aload_n hx hb d_Mo_turn_8 rfl (lv_at hl 0 rfl) ?_
    refine gf_Mo_114 C0 hw hR d_Mo_turn_9 ?_
    refine lv_lconst (v := 0) hx hb d_Mo_turn_12 (by decide) ?_
    refine W.lcmp hx hb d_Mo_turn_13 ?_
    refine lv_if_ge hx hb (tgt := 25) d_Mo_turn_14 (by decide) (fun hc9 => ?_) (fun hc9 => ?_)
    · rw [if_pos hc9] at h
      refine lv_aload_n hx hb d_Mo_turn_25 rfl (lv_at hl 0 rfl) ?_
      refine gf_Mo_118 C0 hw hR d_Mo_turn_26 ?_
      exact J29 ws H locs ls s (ms_L s 1) hw hR (lv_sub hl [0] rfl) h
    · rw [if_neg hc9] at h
      refine lv_aload_n hx hb d_Mo_turn_17 rfl (lv_at hl 0 rfl) ?_
      refine gf_Mo_118 C0 hw hR d_Mo_turn_18 ?_
      refine lv_lneg hx hb d_Mo_turn_21 ?_
      refine lv_goto hx hb (tgt := 29) d_Mo_turn_22 (by decide) ?_
      exact J29 ws H locs ls s (-(ms_L s 1)) hw hR (lv_sub hl [0] rfl) h

theorem d_Mo_takes_0 : decode c_Mo_takes 0 = .ok (.iload_n 1, 1) := by decide +kernel
theorem d_Mo_takes_1 : decode c_Mo_takes 1 = .ok (.iload_n 2, 1) := by decide +kernel
theorem d_Mo_takes_2 : decode c_Mo_takes 2 = .ok (.iadd, 1) := by decide +kernel
theorem d_Mo_takes_3 : decode c_Mo_takes 3 = .ok (.iconst 1, 1) := by decide +kernel
theorem d_Mo_takes_4 : decode c_Mo_takes 4 = .ok (.iadd, 1) := by decide +kernel
theorem d_Mo_takes_5 : decode c_Mo_takes 5 = .ok (.iload_n 3, 1) := by decide +kernel
theorem d_Mo_takes_6 : decode c_Mo_takes 6 = .ok (.if_icmp .ge 37, 3) := by decide +kernel
theorem d_Mo_takes_9 : decode c_Mo_takes 9 = .ok (.aload_n 0, 1) := by decide +kernel
theorem d_Mo_takes_10 : decode c_Mo_takes 10 = .ok (.getfield 49, 3) := by decide +kernel
theorem d_Mo_takes_13 : decode c_Mo_takes 13 = .ok (.bipush 6, 2) := by decide +kernel
theorem d_Mo_takes_15 : decode c_Mo_takes 15 = .ok (.iload_n 1, 1) := by decide +kernel
theorem d_Mo_takes_16 : decode c_Mo_takes 16 = .ok (.imul, 1) := by decide +kernel
theorem d_Mo_takes_17 : decode c_Mo_takes 17 = .ok (.iload_n 2, 1) := by decide +kernel
theorem d_Mo_takes_18 : decode c_Mo_takes 18 = .ok (.iadd, 1) := by decide +kernel
theorem d_Mo_takes_19 : decode c_Mo_takes 19 = .ok (.baload, 1) := by decide +kernel
theorem d_Mo_takes_20 : decode c_Mo_takes 20 = .ok (.ifCond .ne 23, 3) := by decide +kernel
theorem d_Mo_takes_23 : decode c_Mo_takes 23 = .ok (.aload_n 0, 1) := by decide +kernel
theorem d_Mo_takes_24 : decode c_Mo_takes 24 = .ok (.getfield 49, 3) := by decide +kernel
theorem d_Mo_takes_27 : decode c_Mo_takes 27 = .ok (.bipush 6, 2) := by decide +kernel
theorem d_Mo_takes_29 : decode c_Mo_takes 29 = .ok (.iload_n 1, 1) := by decide +kernel
theorem d_Mo_takes_30 : decode c_Mo_takes 30 = .ok (.imul, 1) := by decide +kernel
theorem d_Mo_takes_31 : decode c_Mo_takes 31 = .ok (.iload_n 2, 1) := by decide +kernel
theorem d_Mo_takes_32 : decode c_Mo_takes 32 = .ok (.iadd, 1) := by decide +kernel
theorem d_Mo_takes_33 : decode c_Mo_takes 33 = .ok (.iconst 1, 1) := by decide +kernel
theorem d_Mo_takes_34 : decode c_Mo_takes 34 = .ok (.iadd, 1) := by decide +kernel
theorem d_Mo_takes_35 : decode c_Mo_takes 35 = .ok (.baload, 1) := by decide +kernel
theorem d_Mo_takes_36 : decode c_Mo_takes 36 = .ok (.ifCond .ne 7, 3) := by decide +kernel
theorem d_Mo_takes_39 : decode c_Mo_takes 39 = .ok (.iconst 1, 1) := by decide +kernel
theorem d_Mo_takes_40 : decode c_Mo_takes 40 = .ok (.goto 4, 3) := by decide +kernel
theorem d_Mo_takes_43 : decode c_Mo_takes 43 = .ok (.iconst 0, 1) := by decide +kernel
theorem d_Mo_takes_44 : decode c_Mo_takes 44 = .ok (.ireturn, 1) := by decide +kernel
set_option maxHeartbeats 4000000 in
set_option maxRecDepth 100000 in
theorem s_Mo_takes (l : Launch) (g : Gx) (ws0 : va_W) (sz : Nat) {s : MS} {a1 : Int32} {a2 : Int32} {a3 : Int32} {res : Int32} (hR : ms_Rel g ws0 ws0 s) (h : fn_Mo_takes s a1 a2 a3 = some res) : ct_MI l y_Mo_takes c_Mo_takes 4 (some .boolean) rm_Mo_takes g ws0 sz [.ref (g.2.1 35), .int a1, .int a2, .int a3] res (fun u => u = ws0) := by
  refine ct_startz (by decide +kernel) (Nat.le_of_ble_eq_true rfl) (fun p e sv m args below meth c ls Q A H locs C0 hret hl hw => ?_)
  have hx := C0.1
  have hb := C0.2.1
  have hown := C0.2.2.2.1
  have hts := C0.2.2.2.2.1
  have hl : lv_has ls 4 [(0, .ref (g.2.1 35)), (1, .int a1), (2, .int a2), (3, .int a3)] := hl
  unfold fn_Mo_takes at h
  refine lv_iload_n hx hb d_Mo_takes_0 rfl (lv_at hl 1 rfl) ?_
  refine lv_iload_n hx hb d_Mo_takes_1 rfl (lv_at hl 2 rfl) ?_
  refine lv_iadd hx hb d_Mo_takes_2 ?_
  refine lv_iconst (v := 1) hx hb d_Mo_takes_3 (by decide) ?_
  refine lv_iadd hx hb d_Mo_takes_4 ?_
  refine lv_iload_n hx hb d_Mo_takes_5 rfl (lv_at hl 3 rfl) ?_
  refine lv_icmp_ge hx hb (tgt := 43) d_Mo_takes_6 (by decide) (fun hc9 => ?_) (fun hc9 => ?_)
  · rw [if_pos hc9] at h
    refine lv_iconst (v := 0) hx hb d_Mo_takes_43 (by decide) ?_
    have hz : ct_isB 0 = true := by decide
    obtain rfl := Option.some.inj h
    exact hret hz hw rfl d_Mo_takes_44
  · rw [if_neg hc9] at h
    refine lv_aload_n hx hb d_Mo_takes_9 rfl (lv_at hl 0 rfl) ?_
    refine gf_Mo_49 C0 hw hR d_Mo_takes_10 ?_
    refine lv_bipush (v := 6) hx hb d_Mo_takes_13 (by decide) ?_
    refine lv_iload_n hx hb d_Mo_takes_15 rfl (lv_at hl 1 rfl) ?_
    refine lv_imul hx hb d_Mo_takes_16 ?_
    refine lv_iload_n hx hb d_Mo_takes_17 rfl (lv_at hl 2 rfl) ?_
    refine lv_iadd hx hb d_Mo_takes_18 ?_
    obtain ⟨hg19, h⟩ := ct_gd_some h
    refine ct_ldma7 C0 hw hR (ct_inR_vp hg19) d_Mo_takes_19 ?_
    refine lv_if_ne hx hb (tgt := 43) d_Mo_takes_20 (by decide) (fun hc9 => ?_) (fun hc9 => ?_)
    · rw [if_pos hc9] at h
      refine lv_iconst (v := 0) hx hb d_Mo_takes_43 (by decide) ?_
      have hz : ct_isB 0 = true := by decide
      obtain rfl := Option.some.inj h
      exact hret hz hw rfl d_Mo_takes_44
    · rw [if_neg (fun q => q hc9)] at h
      refine lv_aload_n hx hb d_Mo_takes_23 rfl (lv_at hl 0 rfl) ?_
      refine gf_Mo_49 C0 hw hR d_Mo_takes_24 ?_
      refine lv_bipush (v := 6) hx hb d_Mo_takes_27 (by decide) ?_
      refine lv_iload_n hx hb d_Mo_takes_29 rfl (lv_at hl 1 rfl) ?_
      refine lv_imul hx hb d_Mo_takes_30 ?_
      refine lv_iload_n hx hb d_Mo_takes_31 rfl (lv_at hl 2 rfl) ?_
      refine lv_iadd hx hb d_Mo_takes_32 ?_
      refine lv_iconst (v := 1) hx hb d_Mo_takes_33 (by decide) ?_
      refine lv_iadd hx hb d_Mo_takes_34 ?_
      obtain ⟨hg35, h⟩ := ct_gd_some h
      refine ct_ldma7 C0 hw hR (ct_inR_vp hg35) d_Mo_takes_35 ?_
      refine lv_if_ne hx hb (tgt := 43) d_Mo_takes_36 (by decide) (fun hc9 => ?_) (fun hc9 => ?_)
      · rw [if_pos hc9] at h
        refine lv_iconst (v := 0) hx hb d_Mo_takes_43 (by decide) ?_
        have hz : ct_isB 0 = true := by decide
        obtain rfl := Option.some.inj h
        exact hret hz hw rfl d_Mo_takes_44
      · rw [if_neg (fun q => q hc9)] at h
        refine lv_iconst (v := 1) hx hb d_Mo_takes_39 (by decide) ?_
        refine lv_goto hx hb (tgt := 44) d_Mo_takes_40 (by decide) ?_
        have hz : ct_isB 1 = true := by decide
        obtain rfl := Option.some.inj h
        exact hret hz hw rfl d_Mo_takes_44

theorem d_Mo_find_0 : decode c_Mo_find 0 = .ok (.aload_n 0, 1) := by decide +kernel
theorem d_Mo_find_1 : decode c_Mo_find 1 = .ok (.invokevirtual 100, 3) := by decide +kernel
theorem d_Mo_find_4 : decode c_Mo_find 4 = .ok (.istore_n 3, 1) := by decide +kernel
theorem d_Mo_find_5 : decode c_Mo_find 5 = .ok (.lconst 0, 1) := by decide +kernel
theorem d_Mo_find_6 : decode c_Mo_find 6 = .ok (.lstore 4, 2) := by decide +kernel
theorem d_Mo_find_8 : decode c_Mo_find 8 = .ok (.lconst 0, 1) := by decide +kernel
theorem d_Mo_find_9 : decode c_Mo_find 9 = .ok (.lstore 6, 2) := by decide +kernel
theorem d_Mo_find_11 : decode c_Mo_find 11 = .ok (.iconst 0, 1) := by decide +kernel
theorem d_Mo_find_12 : decode c_Mo_find 12 = .ok (.istore 8, 2) := by decide +kernel
theorem d_Mo_find_14 : decode c_Mo_find 14 = .ok (.iload_n 3, 1) := by decide +kernel
theorem d_Mo_find_15 : decode c_Mo_find 15 = .ok (.iconst 2, 1) := by decide +kernel
theorem d_Mo_find_16 : decode c_Mo_find 16 = .ok (.isub, 1) := by decide +kernel
theorem d_Mo_find_17 : decode c_Mo_find 17 = .ok (.iload_n 2, 1) := by decide +kernel
theorem d_Mo_find_18 : decode c_Mo_find 18 = .ok (.isub, 1) := by decide +kernel
theorem d_Mo_find_19 : decode c_Mo_find 19 = .ok (.istore 9, 2) := by decide +kernel
theorem d_Mo_find_21 : decode c_Mo_find 21 = .ok (.iload 9, 2) := by decide +kernel
theorem d_Mo_find_23 : decode c_Mo_find 23 = .ok (.ifCond .lt 75, 3) := by decide +kernel
theorem d_Mo_find_26 : decode c_Mo_find 26 = .ok (.aload_n 0, 1) := by decide +kernel
theorem d_Mo_find_27 : decode c_Mo_find 27 = .ok (.iload 9, 2) := by decide +kernel
theorem d_Mo_find_29 : decode c_Mo_find 29 = .ok (.iload_n 2, 1) := by decide +kernel
theorem d_Mo_find_30 : decode c_Mo_find 30 = .ok (.iload_n 3, 1) := by decide +kernel
theorem d_Mo_find_31 : decode c_Mo_find 31 = .ok (.invokevirtual 131, 3) := by decide +kernel
theorem d_Mo_find_34 : decode c_Mo_find 34 = .ok (.ifCond .eq 58, 3) := by decide +kernel
theorem d_Mo_find_37 : decode c_Mo_find 37 = .ok (.iload_n 1, 1) := by decide +kernel
theorem d_Mo_find_38 : decode c_Mo_find 38 = .ok (.iconst 1, 1) := by decide +kernel
theorem d_Mo_find_39 : decode c_Mo_find 39 = .ok (.if_icmp .ne 12, 3) := by decide +kernel
theorem d_Mo_find_42 : decode c_Mo_find 42 = .ok (.iload 8, 2) := by decide +kernel
theorem d_Mo_find_44 : decode c_Mo_find 44 = .ok (.aload_n 0, 1) := by decide +kernel
theorem d_Mo_find_45 : decode c_Mo_find 45 = .ok (.getfield 46, 3) := by decide +kernel
theorem d_Mo_find_48 : decode c_Mo_find 48 = .ok (.if_icmp .ge 44, 3) := by decide +kernel
theorem d_Mo_find_51 : decode c_Mo_find 51 = .ok (.lload 4, 2) := by decide +kernel
theorem d_Mo_find_53 : decode c_Mo_find 53 = .ok (.aload_n 0, 1) := by decide +kernel
theorem d_Mo_find_54 : decode c_Mo_find 54 = .ok (.getfield 52, 3) := by decide +kernel
theorem d_Mo_find_57 : decode c_Mo_find 57 = .ok (.bipush 6, 2) := by decide +kernel
theorem d_Mo_find_59 : decode c_Mo_find 59 = .ok (.iload 9, 2) := by decide +kernel
theorem d_Mo_find_61 : decode c_Mo_find 61 = .ok (.imul, 1) := by decide +kernel
theorem d_Mo_find_62 : decode c_Mo_find 62 = .ok (.iload_n 2, 1) := by decide +kernel
theorem d_Mo_find_63 : decode c_Mo_find 63 = .ok (.iadd, 1) := by decide +kernel
theorem d_Mo_find_64 : decode c_Mo_find 64 = .ok (.iconst 1, 1) := by decide +kernel
theorem d_Mo_find_65 : decode c_Mo_find 65 = .ok (.iadd, 1) := by decide +kernel
theorem d_Mo_find_66 : decode c_Mo_find 66 = .ok (.iaload, 1) := by decide +kernel
theorem d_Mo_find_67 : decode c_Mo_find 67 = .ok (.i2l, 1) := by decide +kernel
theorem d_Mo_find_68 : decode c_Mo_find 68 = .ok (.ladd, 1) := by decide +kernel
theorem d_Mo_find_69 : decode c_Mo_find 69 = .ok (.lstore 4, 2) := by decide +kernel
theorem d_Mo_find_71 : decode c_Mo_find 71 = .ok (.lload 6, 2) := by decide +kernel
theorem d_Mo_find_73 : decode c_Mo_find 73 = .ok (.aload_n 0, 1) := by decide +kernel
theorem d_Mo_find_74 : decode c_Mo_find 74 = .ok (.getfield 52, 3) := by decide +kernel
theorem d_Mo_find_77 : decode c_Mo_find 77 = .ok (.bipush 6, 2) := by decide +kernel
theorem d_Mo_find_79 : decode c_Mo_find 79 = .ok (.iload 9, 2) := by decide +kernel
theorem d_Mo_find_81 : decode c_Mo_find 81 = .ok (.imul, 1) := by decide +kernel
theorem d_Mo_find_82 : decode c_Mo_find 82 = .ok (.iload_n 2, 1) := by decide +kernel
theorem d_Mo_find_83 : decode c_Mo_find 83 = .ok (.iadd, 1) := by decide +kernel
theorem d_Mo_find_84 : decode c_Mo_find 84 = .ok (.iaload, 1) := by decide +kernel
theorem d_Mo_find_85 : decode c_Mo_find 85 = .ok (.i2l, 1) := by decide +kernel
theorem d_Mo_find_86 : decode c_Mo_find 86 = .ok (.ladd, 1) := by decide +kernel
theorem d_Mo_find_87 : decode c_Mo_find 87 = .ok (.lstore 6, 2) := by decide +kernel
theorem d_Mo_find_89 : decode c_Mo_find 89 = .ok (.iinc 8 1, 3) := by decide +kernel
theorem d_Mo_find_92 : decode c_Mo_find 92 = .ok (.iinc 9 (-1), 3) := by decide +kernel
theorem d_Mo_find_95 : decode c_Mo_find 95 = .ok (.goto (-74), 3) := by decide +kernel
theorem d_Mo_find_98 : decode c_Mo_find 98 = .ok (.lload 6, 2) := by decide +kernel
theorem d_Mo_find_100 : decode c_Mo_find 100 = .ok (.lconst 0, 1) := by decide +kernel
theorem d_Mo_find_101 : decode c_Mo_find 101 = .ok (.lcmp, 1) := by decide +kernel
theorem d_Mo_find_102 : decode c_Mo_find 102 = .ok (.ifCond .ne 5, 3) := by decide +kernel
theorem d_Mo_find_105 : decode c_Mo_find 105 = .ok (.iconst 0, 1) := by decide +kernel
theorem d_Mo_find_106 : decode c_Mo_find 106 = .ok (.ireturn, 1) := by decide +kernel
theorem d_Mo_find_107 : decode c_Mo_find 107 = .ok (.aload_n 0, 1) := by decide +kernel
theorem d_Mo_find_108 : decode c_Mo_find 108 = .ok (.aload_n 0, 1) := by decide +kernel
theorem d_Mo_find_109 : decode c_Mo_find 109 = .ok (.lload 4, 2) := by decide +kernel
theorem d_Mo_find_111 : decode c_Mo_find 111 = .ok (.invokevirtual 108, 3) := by decide +kernel
theorem d_Mo_find_114 : decode c_Mo_find 114 = .ok (.aload_n 0, 1) := by decide +kernel
theorem d_Mo_find_115 : decode c_Mo_find 115 = .ok (.lload 6, 2) := by decide +kernel
theorem d_Mo_find_117 : decode c_Mo_find 117 = .ok (.invokevirtual 108, 3) := by decide +kernel
theorem d_Mo_find_120 : decode c_Mo_find 120 = .ok (.invokevirtual 76, 3) := by decide +kernel
theorem d_Mo_find_123 : decode c_Mo_find 123 = .ok (.lstore 9, 2) := by decide +kernel
theorem d_Mo_find_125 : decode c_Mo_find 125 = .ok (.aload_n 0, 1) := by decide +kernel
theorem d_Mo_find_126 : decode c_Mo_find 126 = .ok (.lload 6, 2) := by decide +kernel
theorem d_Mo_find_128 : decode c_Mo_find 128 = .ok (.lconst 0, 1) := by decide +kernel
theorem d_Mo_find_129 : decode c_Mo_find 129 = .ok (.lcmp, 1) := by decide +kernel
theorem d_Mo_find_130 : decode c_Mo_find 130 = .ok (.ifCond .ge 12, 3) := by decide +kernel
theorem d_Mo_find_133 : decode c_Mo_find 133 = .ok (.lload 4, 2) := by decide +kernel
theorem d_Mo_find_135 : decode c_Mo_find 135 = .ok (.lneg, 1) := by decide +kernel
theorem d_Mo_find_136 : decode c_Mo_find 136 = .ok (.lload 9, 2) := by decide +kernel
theorem d_Mo_find_138 : decode c_Mo_find 138 = .ok (.ldiv, 1) := by decide +kernel
theorem d_Mo_find_139 : decode c_Mo_find 139 = .ok (.goto 8, 3) := by decide +kernel
theorem d_Mo_find_142 : decode c_Mo_find 142 = .ok (.lload 4, 2) := by decide +kernel
theorem d_Mo_find_144 : decode c_Mo_find 144 = .ok (.lload 9, 2) := by decide +kernel
theorem d_Mo_find_146 : decode c_Mo_find 146 = .ok (.ldiv, 1) := by decide +kernel
theorem d_Mo_find_147 : decode c_Mo_find 147 = .ok (.putfield 134, 3) := by decide +kernel
theorem d_Mo_find_150 : decode c_Mo_find 150 = .ok (.aload_n 0, 1) := by decide +kernel
theorem d_Mo_find_151 : decode c_Mo_find 151 = .ok (.aload_n 0, 1) := by decide +kernel
theorem d_Mo_find_152 : decode c_Mo_find 152 = .ok (.lload 6, 2) := by decide +kernel
theorem d_Mo_find_154 : decode c_Mo_find 154 = .ok (.invokevirtual 108, 3) := by decide +kernel
theorem d_Mo_find_157 : decode c_Mo_find 157 = .ok (.lload 9, 2) := by decide +kernel
theorem d_Mo_find_159 : decode c_Mo_find 159 = .ok (.ldiv, 1) := by decide +kernel
theorem d_Mo_find_160 : decode c_Mo_find 160 = .ok (.putfield 137, 3) := by decide +kernel
theorem d_Mo_find_163 : decode c_Mo_find 163 = .ok (.iconst 1, 1) := by decide +kernel
theorem d_Mo_find_164 : decode c_Mo_find 164 = .ok (.ireturn, 1) := by decide +kernel
set_option maxHeartbeats 4000000 in
set_option maxRecDepth 100000 in
theorem s_Mo_find (l : Launch) (g : Gx) (ws0 : va_W) (sz : Nat) {s : MS} {a1 : Int32} {a2 : Int32} {res : (Int32 × MS)} (hR : ms_Rel g ws0 ws0 s) (h : fn_Mo_find s a1 a2 = some res) : ct_MI l y_Mo_find c_Mo_find 11 (some .boolean) rm_Mo_find g ws0 sz [.ref (g.2.1 35), .int a1, .int a2] res.1 (fun u => ms_Rel g ws0 u res.2) := by
  refine ct_startz (by decide +kernel) (Nat.le_of_ble_eq_true rfl) (fun p e sv m args below meth c ls Q A H locs C0 hret hl hw => ?_)
  have hx := C0.1
  have hb := C0.2.1
  have hown := C0.2.2.2.1
  have hts := C0.2.2.2.2.1
  have hl : lv_has ls 11 [(0, .ref (g.2.1 35)), (1, .int a1), (2, .int a2)] := hl
  have J147 : ∀ (ws : va_W) (H : Heap) (locs : List Loc) (ls : Array Slot) (s : MS) (t1 : Int64) (v6 : Int64) (v9 : Int64), ct_Wd g A sv ws H locs → ms_Rel g ws0 ws s → lv_has ls 11 [(0, .ref (g.2.1 35)), (6, .long v6), (9, .long v9)] → bk_Mo_find_147 a1 a2 s t1 v6 v9 = some res → W p l e rm_Mo_find sv m args below meth c H locs 0 0 Q (F0 m 147 ls [.long t1, .ref (g.2.1 35)]) := by
    intro ws H locs ls s t1 v6 v9 hw hR hl h
    unfold bk_Mo_find_147 at h
    refine pf_Mo_134 C0 hw hR d_Mo_find_147 (fun ws H locs hw hR => ?_)
    obtain ⟨s1, es9, h⟩ := ct_nm_ex h
    rw [← es9] at hR
    clear es9
    refine lv_aload_n hx hb d_Mo_find_150 rfl (lv_at hl 0 rfl) ?_
    refine lv_aload_n hx hb d_Mo_find_151 rfl (lv_at hl 0 rfl) ?_
    refine lv_lload hx hb d_Mo_find_152 (lv_at hl 1 rfl) ?_
    obtain ⟨x2, ho, h⟩ := ct_ob_some h
    refine ct_callVl C0 hw hl.1 (q0 := 35) (hR.1 35 (by decide) (by decide)) rfl (ct_giV wd_890 wd_892 sel_Mo_size wd_7 wd_893) (fun sz => s_Mo_size l g ws sz ho) (nA := 1) (rm := rm_Mo_size) (by decide +kernel) rfl ⟨rfl, rfl⟩ (by decide) (by decide) (As := [.long v6]) (rest := [.ref (g.2.1 35)]) rfl (Nat.le_of_ble_eq_true rfl) d_Mo_find_154 (fun ws1 H locs hw hp => ?_)
    rw [hp] at hw
    clear hp
    refine lv_lload hx hb d_Mo_find_157 (lv_at hl 2 rfl) ?_
    obtain ⟨hg, h⟩ := ct_gd_some h
    refine lv_ldiv hx hb d_Mo_find_159 (ct_gzL_ne hg) ?_
    refine pf_Mo_137 C0 hw hR d_Mo_find_160 (fun ws H locs hw hR => ?_)
    obtain ⟨s3, es9, h⟩ := ct_nm_ex h
    rw [← es9] at hR
    clear es9
    refine lv_iconst (v := 1) hx hb d_Mo_find_163 (by decide) ?_
    have hz : ct_isB 1 = true := by decide
    obtain rfl := Option.some.inj h
    exact hret hz hw hR d_Mo_find_164
  have L21 : ∀ (n21 : Nat) (ws : va_W) (H : Heap) (locs : List Loc) (ls : Array Slot) (s : MS) (v3 : Int32) (v4 : Int64) (v6 : Int64) (v8 : Int32) (v9 : Int32), ct_Wd g A sv ws H locs → ms_Rel g ws0 ws s → lv_has ls 11 [(0, .ref (g.2.1 35)), (1, .int a1), (2, .int a2), (3, .int v3), (4, .long v4), (6, .long v6), (8, .int v8), (9, .int v9)] → bk_Mo_find_21 a1 a2 n21 s v3 v4 v6 v8 v9 = some res → W p l e rm_Mo_find sv m args below meth c H locs 0 0 Q (F0 m 21 ls []) := by
    intro n21
    induction n21 with
    | zero =>
      intro ws H locs ls s v3 v4 v6 v8 v9 hw hR hl h
      exact absurd h (by simp [bk_Mo_find_21])
    | succ n21 ih21 =>
      have J92 : ∀ (ws : va_W) (H : Heap) (locs : List Loc) (ls : Array Slot) (s : MS) (v3 : Int32) (v4 : Int64) (v6 : Int64) (v8 : Int32) (v9 : Int32), ct_Wd g A sv ws H locs → ms_Rel g ws0 ws s → lv_has ls 11 [(0, .ref (g.2.1 35)), (1, .int a1), (2, .int a2), (3, .int v3), (4, .long v4), (6, .long v6), (8, .int v8), (9, .int v9)] → bk_Mo_find_92 a1 a2 (bk_Mo_find_21 a1 a2 n21) s v3 v4 v6 v8 v9 = some res → W p l e rm_Mo_find sv m args below meth c H locs 0 0 Q (F0 m 92 ls []) := by
        intro ws H locs ls s v3 v4 v6 v8 v9 hw hR hl h
        unfold bk_Mo_find_92 at h
        refine lv_iinc (v := v9 + (-1)) (k := 7) (lv' := [(9, .int (v9 + (-1))), (0, .ref (g.2.1 35)), (1, .int a1), (2, .int a2), (3, .int v3), (4, .long v4), (6, .long v6), (8, .int v8)]) hx hb d_Mo_find_92 hl rfl rfl (by decide) rfl (fun ls hl => ?_)
        refine lv_goto hx hb (tgt := 21) d_Mo_find_95 (by decide) ?_
        exact ih21 ws H locs ls s v3 v4 v6 v8 (v9 + (-1)) hw hR (lv_sub hl [1, 2, 3, 4, 5, 6, 7, 0] rfl) h
      have J51 : ∀ (ws : va_W) (H : Heap) (locs : List Loc) (ls : Array Slot) (s : MS) (v3 : Int32) (v4 : Int64) (v6 : Int64) (v8 : Int32) (v9 : Int32), ct_Wd g A sv ws H locs → ms_Rel g ws0 ws s → lv_has ls 11 [(0, .ref (g.2.1 35)), (1, .int a1), (2, .int a2), (3, .int v3), (4, .long v4), (6, .long v6), (8, .int v8), (9, .int v9)] → bk_Mo_find_51 a1 a2 (bk_Mo_find_21 a1 a2 n21) s v3 v4 v6 v8 v9 = some res → W p l e rm_Mo_find sv m args below meth c H locs 0 0 Q (F0 m 51 ls []) := by
        intro ws H locs ls s v3 v4 v6 v8 v9 hw hR hl h
        unfold bk_Mo_find_51 at h
        refine lv_lload hx hb d_Mo_find_51 (lv_at hl 4 rfl) ?_
        refine lv_aload_n hx hb d_Mo_find_53 rfl (lv_at hl 0 rfl) ?_
        refine gf_Mo_52 C0 hw hR d_Mo_find_54 ?_
        refine lv_bipush (v := 6) hx hb d_Mo_find_57 (by decide) ?_
        refine lv_iload hx hb d_Mo_find_59 (lv_at hl 7 rfl) ?_
        refine lv_imul hx hb d_Mo_find_61 ?_
        refine lv_iload_n hx hb d_Mo_find_62 rfl (lv_at hl 2 rfl) ?_
        refine lv_iadd hx hb d_Mo_find_63 ?_
        refine lv_iconst (v := 1) hx hb d_Mo_find_64 (by decide) ?_
        refine lv_iadd hx hb d_Mo_find_65 ?_
        obtain ⟨hg66, h⟩ := ct_gd_some h
        refine ct_ldma8 C0 hw hR (ct_inR_vp hg66) d_Mo_find_66 ?_
        refine lv_i2l hx hb d_Mo_find_67 rfl ?_
        refine lv_ladd hx hb d_Mo_find_68 ?_
        refine lv_topl (fun x4 e9 => ?_)
        have h := ct_nm_at h e9
        clear e9
        refine lv_lstore (lv' := [(4, .long x4), (0, .ref (g.2.1 35)), (1, .int a1), (2, .int a2), (3, .int v3), (6, .long v6), (8, .int v8), (9, .int v9)]) hx hb d_Mo_find_69 hl (by decide) rfl (fun ls hl => ?_)
        refine lv_lload hx hb d_Mo_find_71 (lv_at hl 5 rfl) ?_
        refine lv_aload_n hx hb d_Mo_find_73 rfl (lv_at hl 1 rfl) ?_
        refine gf_Mo_52 C0 hw hR d_Mo_find_74 ?_
        refine lv_bipush (v := 6) hx hb d_Mo_find_77 (by decide) ?_
        refine lv_iload hx hb d_Mo_find_79 (lv_at hl 7 rfl) ?_
        refine lv_imul hx hb d_Mo_find_81 ?_
        refine lv_iload_n hx hb d_Mo_find_82 rfl (lv_at hl 3 rfl) ?_
        refine lv_iadd hx hb d_Mo_find_83 ?_
        obtain ⟨hg84, h⟩ := ct_gd_some h
        refine ct_ldma8 C0 hw hR (ct_inR_vp hg84) d_Mo_find_84 ?_
        refine lv_i2l hx hb d_Mo_find_85 rfl ?_
        refine lv_ladd hx hb d_Mo_find_86 ?_
        refine lv_topl (fun x5 e9 => ?_)
        have h := ct_nm_at h e9
        clear e9
        refine lv_lstore (lv' := [(6, .long x5), (4, .long x4), (0, .ref (g.2.1 35)), (1, .int a1), (2, .int a2), (3, .int v3), (8, .int v8), (9, .int v9)]) hx hb d_Mo_find_87 hl (by decide) rfl (fun ls hl => ?_)
        refine lv_iinc (v := v8 + 1) (k := 6) (lv' := [(8, .int (v8 + 1)), (6, .long x5), (4, .long x4), (0, .ref (g.2.1 35)), (1, .int a1), (2, .int a2), (3, .int v3), (9, .int v9)]) hx hb d_Mo_find_89 hl rfl rfl (by decide) rfl (fun ls hl => ?_)
        exact J92 ws H locs ls s v3 x4 x5 (v8 + 1) v9 hw hR (lv_sub hl [3, 4, 5, 6, 2, 1, 0, 7] rfl) h
      intro ws H locs ls s v3 v4 v6 v8 v9 hw hR hl h
      have h : bk_Mo_find_21_o a1 a2 (bk_Mo_find_21 a1 a2 n21) s v3 v4 v6 v8 v9 = some res := h
      unfold bk_Mo_find_21_o at h
      refine lv_iload hx hb d_Mo_find_21 (lv_at hl 7 rfl) ?_
      refine lv_if_lt hx hb (tgt := 98) d_Mo_find_23 (by decide) (fun hc9 => ?_) (fun hc9 => ?_)
      · rw [if_pos hc9] at h
        refine lv_lload hx hb d_Mo_find_98 (lv_at hl 5 rfl) ?_
        refine lv_lconst (v := 0) hx hb d_Mo_find_100 (by decide) ?_
        refine W.lcmp hx hb d_Mo_find_101 ?_
        refine lv_if_ne hx hb (tgt := 107) d_Mo_find_102 (by decide) (fun hc9 => ?_) (fun hc9 => ?_)
        · rw [if_pos hc9] at h
          refine lv_aload_n hx hb d_Mo_find_107 rfl (lv_at hl 0 rfl) ?_
          refine lv_aload_n hx hb d_Mo_find_108 rfl (lv_at hl 0 rfl) ?_
          refine lv_lload hx hb d_Mo_find_109 (lv_at hl 4 rfl) ?_
          obtain ⟨x6, ho, h⟩ := ct_ob_some h
          refine ct_callVl C0 hw hl.1 (q0 := 35) (hR.1 35 (by decide) (by decide)) rfl (ct_giV wd_890 wd_892 sel_Mo_size wd_7 wd_893) (fun sz => s_Mo_size l g ws sz ho) (nA := 1) (rm := rm_Mo_size) (by decide +kernel) rfl ⟨rfl, rfl⟩ (by decide) (by decide) (As := [.long v4]) (rest := [.ref (g.2.1 35)]) rfl (Nat.le_of_ble_eq_true rfl) d_Mo_find_111 (fun ws1 H locs hw hp => ?_)
          rw [hp] at hw
          clear hp
          refine lv_aload_n hx hb d_Mo_find_114 rfl (lv_at hl 0 rfl) ?_
          refine lv_lload hx hb d_Mo_find_115 (lv_at hl 5 rfl) ?_
          obtain ⟨x7, ho, h⟩ := ct_ob_some h
          refine ct_callVl C0 hw hl.1 (q0 := 35) (hR.1 35 (by decide) (by decide)) rfl (ct_giV wd_890 wd_892 sel_Mo_size wd_7 wd_893) (fun sz => s_Mo_size l g ws sz ho) (nA := 1) (rm := rm_Mo_size) (by decide +kernel) rfl ⟨rfl, rfl⟩ (by decide) (by decide) (As := [.long v6]) (rest := [.long x6, .ref (g.2.1 35)]) rfl (Nat.le_of_ble_eq_true rfl) d_Mo_find_117 (fun ws1 H locs hw hp => ?_)
          rw [hp] at hw
          clear hp
          obtain ⟨x8, ho, h⟩ := ct_ob_some h
          refine ct_callVl C0 hw hl.1 (q0 := 35) (hR.1 35 (by decide) (by decide)) rfl (ct_giV wd_834 wd_836 sel_Mo_divisor wd_7 wd_837) (fun sz => s_Mo_divisor l g ws sz ho) (nA := 2) (rm := rm_Mo_divisor) (by decide +kernel) rfl ⟨rfl, rfl⟩ (by decide) (by decide) (As := [.long x6, .long x7]) (rest := []) rfl (Nat.le_of_ble_eq_true rfl) d_Mo_find_120 (fun ws1 H locs hw hp => ?_)
          rw [hp] at hw
          clear hp
          refine lv_lstore (lv' := [(9, .long x8), (0, .ref (g.2.1 35)), (1, .int a1), (2, .int a2), (3, .int v3), (4, .long v4), (6, .long v6), (8, .int v8)]) hx hb d_Mo_find_123 hl (by decide) rfl (fun ls hl => ?_)
          refine lv_aload_n hx hb d_Mo_find_125 rfl (lv_at hl 1 rfl) ?_
          refine lv_lload hx hb d_Mo_find_126 (lv_at hl 6 rfl) ?_
          refine lv_lconst (v := 0) hx hb d_Mo_find_128 (by decide) ?_
          refine W.lcmp hx hb d_Mo_find_129 ?_
          refine lv_if_ge hx hb (tgt := 142) d_Mo_find_130 (by decide) (fun hc9 => ?_) (fun hc9 => ?_)
          · rw [if_pos hc9] at h
            refine lv_lload hx hb d_Mo_find_142 (lv_at hl 5 rfl) ?_
            refine lv_lload hx hb d_Mo_find_144 (lv_at hl 0 rfl) ?_
            obtain ⟨hg, h⟩ := ct_gd_some h
            refine lv_ldiv hx hb d_Mo_find_146 (ct_gzL_ne hg) ?_
            exact J147 ws H locs ls s (v4 / x8) v6 x8 hw hR (lv_sub hl [1, 6, 0] rfl) h
          · rw [if_neg hc9] at h
            refine lv_lload hx hb d_Mo_find_133 (lv_at hl 5 rfl) ?_
            refine lv_lneg hx hb d_Mo_find_135 ?_
            refine lv_lload hx hb d_Mo_find_136 (lv_at hl 0 rfl) ?_
            obtain ⟨hg, h⟩ := ct_gd_some h
            refine lv_ldiv hx hb d_Mo_find_138 (ct_gzL_ne hg) ?_
            refine lv_goto hx hb (tgt := 147) d_Mo_find_139 (by decide) ?_
            exact J147 ws H locs ls s ((-v4) / x8) v6 x8 hw hR (lv_sub hl [1, 6, 0] rfl) h
        · rw [if_neg (fun q => q hc9)] at h
          refine lv_iconst (v := 0) hx hb d_Mo_find_105 (by decide) ?_
          have hz : ct_isB 0 = true := by decide
          obtain rfl := Option.some.inj h
          exact hret hz hw hR d_Mo_find_106
      · rw [if_neg hc9] at h
        refine lv_aload_n hx hb d_Mo_find_26 rfl (lv_at hl 0 rfl) ?_
        refine lv_iload hx hb d_Mo_find_27 (lv_at hl 7 rfl) ?_
        refine lv_iload_n hx hb d_Mo_find_29 rfl (lv_at hl 2 rfl) ?_
        refine lv_iload_n hx hb d_Mo_find_30 rfl (lv_at hl 3 rfl) ?_
        obtain ⟨x9, ho, h⟩ := ct_ob_some h
        refine ct_callVi C0 hw hl.1 (q0 := 35) (hR.1 35 (by decide) (by decide)) rfl (ct_giV wd_886 wd_888 sel_Mo_takes wd_7 wd_889) (fun sz => s_Mo_takes l g ws sz hR.rf ho) (nA := 3) (rm := rm_Mo_takes) (by decide +kernel) rfl ⟨rfl, rfl⟩ (by decide) (by decide) (As := [.int v9, .int a2, .int v3]) (rest := []) rfl (Nat.le_of_ble_eq_true rfl) d_Mo_find_31 (fun ws1 H locs hw hp => ?_)
        rw [hp] at hw
        clear hp
        refine lv_if_eq hx hb (tgt := 92) d_Mo_find_34 (by decide) (fun hc9 => ?_) (fun hc9 => ?_)
        · rw [if_pos hc9] at h
          exact J92 ws H locs ls s v3 v4 v6 v8 v9 hw hR (lv_sub hl [0, 1, 2, 3, 4, 5, 6, 7] rfl) h
        · rw [if_neg hc9] at h
          refine lv_iload_n hx hb d_Mo_find_37 rfl (lv_at hl 1 rfl) ?_
          refine lv_iconst (v := 1) hx hb d_Mo_find_38 (by decide) ?_
          refine lv_icmp_ne hx hb (tgt := 51) d_Mo_find_39 (by decide) (fun hc9 => ?_) (fun hc9 => ?_)
          · rw [if_pos hc9] at h
            exact J51 ws H locs ls s v3 v4 v6 v8 v9 hw hR (lv_sub hl [0, 1, 2, 3, 4, 5, 6, 7] rfl) h
          · rw [if_neg (fun q => q hc9)] at h
            refine lv_iload hx hb d_Mo_find_42 (lv_at hl 6 rfl) ?_
            refine lv_aload_n hx hb d_Mo_find_44 rfl (lv_at hl 0 rfl) ?_
            refine gf_Mo_46 C0 hw hR d_Mo_find_45 ?_
            refine lv_icmp_ge hx hb (tgt := 92) d_Mo_find_48 (by decide) (fun hc9 => ?_) (fun hc9 => ?_)
            · rw [if_pos hc9] at h
              exact J92 ws H locs ls s v3 v4 v6 v8 v9 hw hR (lv_sub hl [0, 1, 2, 3, 4, 5, 6, 7] rfl) h
            · rw [if_neg hc9] at h
              exact J51 ws H locs ls s v3 v4 v6 v8 v9 hw hR (lv_sub hl [0, 1, 2, 3, 4, 5, 6, 7] rfl) h
  unfold fn_Mo_find at h
  obtain ⟨ws, hwe⟩ : ∃ z : va_W, z = ws0 := ⟨_, rfl⟩
  rw [← hwe] at hw
  have hR : ms_Rel g ws0 ws s := by rw [hwe]; exact hR
  clear hwe
  refine lv_aload_n hx hb d_Mo_find_0 rfl (lv_at hl 0 rfl) ?_
  obtain ⟨x10, ho, h⟩ := ct_ob_some h
  refine ct_callVi C0 hw hl.1 (q0 := 35) (hR.1 35 (by decide) (by decide)) rfl (ct_giV wd_846 wd_848 sel_Mo_left wd_7 wd_849) (fun sz => s_Mo_left l g ws sz hR.rf ho) (nA := 0) (rm := rm_Mo_left) (by decide +kernel) rfl ⟨rfl, rfl⟩ (by decide) (by decide) (As := []) (rest := []) rfl (Nat.le_of_ble_eq_true rfl) d_Mo_find_1 (fun ws1 H locs hw hp => ?_)
  rw [hp] at hw
  clear hp
  refine lv_istore_n (lv' := [(3, .int x10), (0, .ref (g.2.1 35)), (1, .int a1), (2, .int a2)]) hx hb d_Mo_find_4 rfl hl (by decide) rfl (fun ls hl => ?_)
  refine lv_lconst (v := 0) hx hb d_Mo_find_5 (by decide) ?_
  refine lv_lstore (lv' := [(4, .long 0), (3, .int x10), (0, .ref (g.2.1 35)), (1, .int a1), (2, .int a2)]) hx hb d_Mo_find_6 hl (by decide) rfl (fun ls hl => ?_)
  refine lv_lconst (v := 0) hx hb d_Mo_find_8 (by decide) ?_
  refine lv_lstore (lv' := [(6, .long 0), (4, .long 0), (3, .int x10), (0, .ref (g.2.1 35)), (1, .int a1), (2, .int a2)]) hx hb d_Mo_find_9 hl (by decide) rfl (fun ls hl => ?_)
  refine lv_iconst (v := 0) hx hb d_Mo_find_11 (by decide) ?_
  refine lv_istore (lv' := [(8, .int 0), (6, .long 0), (4, .long 0), (3, .int x10), (0, .ref (g.2.1 35)), (1, .int a1), (2, .int a2)]) hx hb d_Mo_find_12 hl (by decide) rfl (fun ls hl => ?_)
  refine lv_iload_n hx hb d_Mo_find_14 rfl (lv_at hl 3 rfl) ?_
  refine lv_iconst (v := 2) hx hb d_Mo_find_15 (by decide) ?_
  refine lv_isub hx hb d_Mo_find_16 ?_
  refine lv_iload_n hx hb d_Mo_find_17 rfl (lv_at hl 6 rfl) ?_
  refine lv_isub hx hb d_Mo_find_18 ?_
  refine lv_topi (fun x11 e9 => ?_)
  have h := ct_nm_at h e9
  clear e9
  refine lv_istore (lv' := [(9, .int x11), (8, .int 0), (6, .long 0), (4, .long 0), (3, .int x10), (0, .ref (g.2.1 35)), (1, .int a1), (2, .int a2)]) hx hb d_Mo_find_19 hl (by decide) rfl (fun ls hl => ?_)
  exact L21 200 ws H locs ls s x10 0 0 0 x11 hw hR (lv_sub hl [5, 6, 7, 4, 3, 2, 1, 0] rfl) h

theorem d_Mo_areDefined_0 : decode c_Mo_areDefined 0 = .ok (.iconst 1, 1) := by decide +kernel
theorem d_Mo_areDefined_1 : decode c_Mo_areDefined 1 = .ok (.istore 4, 2) := by decide +kernel
theorem d_Mo_areDefined_3 : decode c_Mo_areDefined 3 = .ok (.iload_n 2, 1) := by decide +kernel
theorem d_Mo_areDefined_4 : decode c_Mo_areDefined 4 = .ok (.istore 5, 2) := by decide +kernel
theorem d_Mo_areDefined_6 : decode c_Mo_areDefined 6 = .ok (.iload 5, 2) := by decide +kernel
theorem d_Mo_areDefined_8 : decode c_Mo_areDefined 8 = .ok (.iload_n 3, 1) := by decide +kernel
theorem d_Mo_areDefined_9 : decode c_Mo_areDefined 9 = .ok (.if_icmp .gt 31, 3) := by decide +kernel
theorem d_Mo_areDefined_12 : decode c_Mo_areDefined 12 = .ok (.iload 4, 2) := by decide +kernel
theorem d_Mo_areDefined_14 : decode c_Mo_areDefined 14 = .ok (.ifCond .eq 17, 3) := by decide +kernel
theorem d_Mo_areDefined_17 : decode c_Mo_areDefined 17 = .ok (.aload_n 0, 1) := by decide +kernel
theorem d_Mo_areDefined_18 : decode c_Mo_areDefined 18 = .ok (.iload_n 1, 1) := by decide +kernel
theorem d_Mo_areDefined_19 : decode c_Mo_areDefined 19 = .ok (.iload 5, 2) := by decide +kernel
theorem d_Mo_areDefined_21 : decode c_Mo_areDefined 21 = .ok (.invokevirtual 140, 3) := by decide +kernel
theorem d_Mo_areDefined_24 : decode c_Mo_areDefined 24 = .ok (.ifCond .eq 7, 3) := by decide +kernel
theorem d_Mo_areDefined_27 : decode c_Mo_areDefined 27 = .ok (.iconst 1, 1) := by decide +kernel
theorem d_Mo_areDefined_28 : decode c_Mo_areDefined 28 = .ok (.goto 4, 3) := by decide +kernel
theorem d_Mo_areDefined_31 : decode c_Mo_areDefined 31 = .ok (.iconst 0, 1) := by decide +kernel
theorem d_Mo_areDefined_32 : decode c_Mo_areDefined 32 = .ok (.istore 4, 2) := by decide +kernel
theorem d_Mo_areDefined_34 : decode c_Mo_areDefined 34 = .ok (.iinc 5 1, 3) := by decide +kernel
theorem d_Mo_areDefined_37 : decode c_Mo_areDefined 37 = .ok (.goto (-31), 3) := by decide +kernel
theorem d_Mo_areDefined_40 : decode c_Mo_areDefined 40 = .ok (.iload 4, 2) := by decide +kernel
theorem d_Mo_areDefined_42 : decode c_Mo_areDefined 42 = .ok (.ireturn, 1) := by decide +kernel
set_option maxHeartbeats 4000000 in
set_option maxRecDepth 100000 in
theorem s_Mo_areDefined (l : Launch) (g : Gx) (ws0 : va_W) (sz : Nat) {s : MS} {a1 : Int32} {a2 : Int32} {a3 : Int32} {res : (Int32 × MS)} (hR : ms_Rel g ws0 ws0 s) (h : fn_Mo_areDefined s a1 a2 a3 = some res) : ct_MI l y_Mo_areDefined c_Mo_areDefined 6 (some .boolean) rm_Mo_areDefined g ws0 sz [.ref (g.2.1 35), .int a1, .int a2, .int a3] res.1 (fun u => ms_Rel g ws0 u res.2) := by
  refine ct_startz (by decide +kernel) (Nat.le_of_ble_eq_true rfl) (fun p e sv m args below meth c ls Q A H locs C0 hret hl hw => ?_)
  have hx := C0.1
  have hb := C0.2.1
  have hown := C0.2.2.2.1
  have hts := C0.2.2.2.2.1
  have hl : lv_has ls 6 [(0, .ref (g.2.1 35)), (1, .int a1), (2, .int a2), (3, .int a3)] := hl
  have L6 : ∀ (n6 : Nat) (ws : va_W) (H : Heap) (locs : List Loc) (ls : Array Slot) (s : MS) (v4 : Int32) (v5 : Int32), ct_Wd g A sv ws H locs → ms_Rel g ws0 ws s → lv_has ls 6 [(0, .ref (g.2.1 35)), (1, .int a1), (3, .int a3), (4, .int v4), (5, .int v5)] → bk_Mo_areDefined_6 a1 a2 a3 n6 s v4 v5 = some res → W p l e rm_Mo_areDefined sv m args below meth c H locs 0 0 Q (F0 m 6 ls []) := by
    intro n6
    induction n6 with
    | zero =>
      intro ws H locs ls s v4 v5 hw hR hl h
      exact absurd h (by simp [bk_Mo_areDefined_6])
    | succ n6 ih6 =>
      have J32 : ∀ (ws : va_W) (H : Heap) (locs : List Loc) (ls : Array Slot) (s : MS) (t0 : Int32) (v5 : Int32), ct_Wd g A sv ws H locs → ms_Rel g ws0 ws s → lv_has ls 6 [(0, .ref (g.2.1 35)), (1, .int a1), (3, .int a3), (5, .int v5)] → bk_Mo_areDefined_32 a1 a2 a3 (bk_Mo_areDefined_6 a1 a2 a3 n6) s t0 v5 = some res → W p l e rm_Mo_areDefined sv m args below meth c H locs 0 0 Q (F0 m 32 ls [.int t0]) := by
        intro ws H locs ls s t0 v5 hw hR hl h
        unfold bk_Mo_areDefined_32 at h
        refine lv_istore (lv' := [(4, .int t0), (0, .ref (g.2.1 35)), (1, .int a1), (3, .int a3), (5, .int v5)]) hx hb d_Mo_areDefined_32 hl (by decide) rfl (fun ls hl => ?_)
        refine lv_iinc (v := v5 + 1) (k := 4) (lv' := [(5, .int (v5 + 1)), (4, .int t0), (0, .ref (g.2.1 35)), (1, .int a1), (3, .int a3)]) hx hb d_Mo_areDefined_34 hl rfl rfl (by decide) rfl (fun ls hl => ?_)
        refine lv_goto hx hb (tgt := 6) d_Mo_areDefined_37 (by decide) ?_
        exact ih6 ws H locs ls s t0 (v5 + 1) hw hR (lv_sub hl [2, 3, 4, 1, 0] rfl) h
      intro ws H locs ls s v4 v5 hw hR hl h
      have h : bk_Mo_areDefined_6_o a1 a2 a3 (bk_Mo_areDefined_6 a1 a2 a3 n6) s v4 v5 = some res := h
      unfold bk_Mo_areDefined_6_o at h
      refine lv_iload hx hb d_Mo_areDefined_6 (lv_at hl 4 rfl) ?_
      refine lv_iload_n hx hb d_Mo_areDefined_8 rfl (lv_at hl 2 rfl) ?_
      refine lv_icmp_gt hx hb (tgt := 40) d_Mo_areDefined_9 (by decide) (fun hc9 => ?_) (fun hc9 => ?_)
      · rw [if_pos hc9] at h
        refine lv_iload hx hb d_Mo_areDefined_40 (lv_at hl 3 rfl) ?_
        obtain ⟨hz, h⟩ := ct_gd_some h
        obtain rfl := Option.some.inj h
        exact hret hz hw hR d_Mo_areDefined_42
      · rw [if_neg hc9] at h
        refine lv_iload hx hb d_Mo_areDefined_12 (lv_at hl 3 rfl) ?_
        refine lv_if_eq hx hb (tgt := 31) d_Mo_areDefined_14 (by decide) (fun hc9 => ?_) (fun hc9 => ?_)
        · rw [if_pos hc9] at h
          refine lv_iconst (v := 0) hx hb d_Mo_areDefined_31 (by decide) ?_
          exact J32 ws H locs ls s 0 v5 hw hR (lv_sub hl [0, 1, 2, 4] rfl) h
        · rw [if_neg hc9] at h
          refine lv_aload_n hx hb d_Mo_areDefined_17 rfl (lv_at hl 0 rfl) ?_
          refine lv_iload_n hx hb d_Mo_areDefined_18 rfl (lv_at hl 1 rfl) ?_
          refine lv_iload hx hb d_Mo_areDefined_19 (lv_at hl 4 rfl) ?_
          obtain ⟨x1, s2, ho, h⟩ := ct_ob2_some h
          refine ct_callVi C0 hw hl.1 (q0 := 35) (hR.1 35 (by decide) (by decide)) rfl (ct_giV wd_882 wd_884 sel_Mo_find wd_7 wd_885) (fun sz => s_Mo_find l g ws sz hR.rf ho) (nA := 2) (rm := rm_Mo_find) (by decide +kernel) rfl ⟨rfl, rfl⟩ (by decide) (by decide) (As := [.int a1, .int v5]) (rest := []) rfl (Nat.le_of_ble_eq_true rfl) d_Mo_areDefined_21 (fun ws1 H locs hw hp => ?_)
          have hR := hR.trans hp
          clear hp
          generalize ws1 = ws at hw hR
          refine lv_if_eq hx hb (tgt := 31) d_Mo_areDefined_24 (by decide) (fun hc9 => ?_) (fun hc9 => ?_)
          · rw [if_pos hc9] at h
            refine lv_iconst (v := 0) hx hb d_Mo_areDefined_31 (by decide) ?_
            exact J32 ws H locs ls s2 0 v5 hw hR (lv_sub hl [0, 1, 2, 4] rfl) h
          · rw [if_neg hc9] at h
            refine lv_iconst (v := 1) hx hb d_Mo_areDefined_27 (by decide) ?_
            refine lv_goto hx hb (tgt := 32) d_Mo_areDefined_28 (by decide) ?_
            exact J32 ws H locs ls s2 1 v5 hw hR (lv_sub hl [0, 1, 2, 4] rfl) h
  unfold fn_Mo_areDefined at h
  obtain ⟨ws, hwe⟩ : ∃ z : va_W, z = ws0 := ⟨_, rfl⟩
  rw [← hwe] at hw
  have hR : ms_Rel g ws0 ws s := by rw [hwe]; exact hR
  clear hwe
  refine lv_iconst (v := 1) hx hb d_Mo_areDefined_0 (by decide) ?_
  refine lv_istore (lv' := [(4, .int 1), (0, .ref (g.2.1 35)), (1, .int a1), (2, .int a2), (3, .int a3)]) hx hb d_Mo_areDefined_1 hl (by decide) rfl (fun ls hl => ?_)
  refine lv_iload_n hx hb d_Mo_areDefined_3 rfl (lv_at hl 3 rfl) ?_
  refine lv_istore (lv' := [(5, .int a2), (4, .int 1), (0, .ref (g.2.1 35)), (1, .int a1), (2, .int a2), (3, .int a3)]) hx hb d_Mo_areDefined_4 hl (by decide) rfl (fun ls hl => ?_)
  exact L6 200 ws H locs ls s 1 a2 hw hR (lv_sub hl [2, 3, 5, 1, 0] rfl) h

theorem d_Mo_way_0 : decode c_Mo_way 0 = .ok (.aload_n 0, 1) := by decide +kernel
theorem d_Mo_way_1 : decode c_Mo_way 1 = .ok (.lconst 1, 1) := by decide +kernel
theorem d_Mo_way_2 : decode c_Mo_way 2 = .ok (.lconst 1, 1) := by decide +kernel
theorem d_Mo_way_3 : decode c_Mo_way 3 = .ok (.invokevirtual 125, 3) := by decide +kernel
theorem d_Mo_way_6 : decode c_Mo_way 6 = .ok (.iload_n 2, 1) := by decide +kernel
theorem d_Mo_way_7 : decode c_Mo_way 7 = .ok (.istore 4, 2) := by decide +kernel
theorem d_Mo_way_9 : decode c_Mo_way 9 = .ok (.iload 4, 2) := by decide +kernel
theorem d_Mo_way_11 : decode c_Mo_way 11 = .ok (.iload_n 3, 1) := by decide +kernel
theorem d_Mo_way_12 : decode c_Mo_way 12 = .ok (.if_icmp .gt 31, 3) := by decide +kernel
theorem d_Mo_way_15 : decode c_Mo_way 15 = .ok (.aload_n 0, 1) := by decide +kernel
theorem d_Mo_way_16 : decode c_Mo_way 16 = .ok (.iload_n 1, 1) := by decide +kernel
theorem d_Mo_way_17 : decode c_Mo_way 17 = .ok (.iload 4, 2) := by decide +kernel
theorem d_Mo_way_19 : decode c_Mo_way 19 = .ok (.invokevirtual 140, 3) := by decide +kernel
theorem d_Mo_way_22 : decode c_Mo_way 22 = .ok (.ifCond .eq 15, 3) := by decide +kernel
theorem d_Mo_way_25 : decode c_Mo_way 25 = .ok (.aload_n 0, 1) := by decide +kernel
theorem d_Mo_way_26 : decode c_Mo_way 26 = .ok (.aload_n 0, 1) := by decide +kernel
theorem d_Mo_way_27 : decode c_Mo_way 27 = .ok (.getfield 134, 3) := by decide +kernel
theorem d_Mo_way_30 : decode c_Mo_way 30 = .ok (.aload_n 0, 1) := by decide +kernel
theorem d_Mo_way_31 : decode c_Mo_way 31 = .ok (.getfield 137, 3) := by decide +kernel
theorem d_Mo_way_34 : decode c_Mo_way 34 = .ok (.invokevirtual 143, 3) := by decide +kernel
theorem d_Mo_way_37 : decode c_Mo_way 37 = .ok (.iinc 4 1, 3) := by decide +kernel
theorem d_Mo_way_40 : decode c_Mo_way 40 = .ok (.goto (-31), 3) := by decide +kernel
theorem d_Mo_way_43 : decode c_Mo_way 43 = .ok (.return_, 1) := by decide +kernel
set_option maxHeartbeats 4000000 in
set_option maxRecDepth 100000 in
theorem s_Mo_way (l : Launch) (g : Gx) (ws0 : va_W) (sz : Nat) {s : MS} {a1 : Int32} {a2 : Int32} {a3 : Int32} {res : MS} (hR : ms_Rel g ws0 ws0 s) (h : fn_Mo_way s a1 a2 a3 = some res) : ct_MV l y_Mo_way c_Mo_way 5 none rm_Mo_way g ws0 sz [.ref (g.2.1 35), .int a1, .int a2, .int a3]  (fun u => ms_Rel g ws0 u res) := by
  refine ct_startv (by decide +kernel) (Nat.le_of_ble_eq_true rfl) (fun p e sv m args below meth c ls Q A H locs C0 hret hl hw => ?_)
  have hx := C0.1
  have hb := C0.2.1
  have hown := C0.2.2.2.1
  have hts := C0.2.2.2.2.1
  have hl : lv_has ls 5 [(0, .ref (g.2.1 35)), (1, .int a1), (2, .int a2), (3, .int a3)] := hl
  have L9 : ∀ (n9 : Nat) (ws : va_W) (H : Heap) (locs : List Loc) (ls : Array Slot) (s : MS) (v4 : Int32), ct_Wd g A sv ws H locs → ms_Rel g ws0 ws s → lv_has ls 5 [(0, .ref (g.2.1 35)), (1, .int a1), (3, .int a3), (4, .int v4)] → bk_Mo_way_9 a1 a2 a3 n9 s v4 = some res → W p l e rm_Mo_way sv m args below meth c H locs 0 0 Q (F0 m 9 ls []) := by
    intro n9
    induction n9 with
    | zero =>
      intro ws H locs ls s v4 hw hR hl h
      exact absurd h (by simp [bk_Mo_way_9])
    | succ n9 ih9 =>
      have J37 : ∀ (ws : va_W) (H : Heap) (locs : List Loc) (ls : Array Slot) (s : MS) (v4 : Int32), ct_Wd g A sv ws H locs → ms_Rel g ws0 ws s → lv_has ls 5 [(0, .ref (g.2.1 35)), (1, .int a1), (3, .int a3), (4, .int v4)] → bk_Mo_way_37 a1 a2 a3 (bk_Mo_way_9 a1 a2 a3 n9) s v4 = some res → W p l e rm_Mo_way sv m args below meth c H locs 0 0 Q (F0 m 37 ls []) := by
        intro ws H locs ls s v4 hw hR hl h
        unfold bk_Mo_way_37 at h
        refine lv_iinc (v := v4 + 1) (k := 3) (lv' := [(4, .int (v4 + 1)), (0, .ref (g.2.1 35)), (1, .int a1), (3, .int a3)]) hx hb d_Mo_way_37 hl rfl rfl (by decide) rfl (fun ls hl => ?_)
        refine lv_goto hx hb (tgt := 9) d_Mo_way_40 (by decide) ?_
        exact ih9 ws H locs ls s (v4 + 1) hw hR (lv_sub hl [1, 2, 3, 0] rfl) h
      intro ws H locs ls s v4 hw hR hl h
      have h : bk_Mo_way_9_o a1 a2 a3 (bk_Mo_way_9 a1 a2 a3 n9) s v4 = some res := h
      unfold bk_Mo_way_9_o at h
      refine lv_iload hx hb d_Mo_way_9 (lv_at hl 3 rfl) ?_
      refine lv_iload_n hx hb d_Mo_way_11 rfl (lv_at hl 2 rfl) ?_
      refine lv_icmp_gt hx hb (tgt := 43) d_Mo_way_12 (by decide) (fun hc9 => ?_) (fun hc9 => ?_)
      · rw [if_pos hc9] at h
        obtain rfl := Option.some.inj h
        exact hret hw hR d_Mo_way_43
      · rw [if_neg hc9] at h
        refine lv_aload_n hx hb d_Mo_way_15 rfl (lv_at hl 0 rfl) ?_
        refine lv_iload_n hx hb d_Mo_way_16 rfl (lv_at hl 1 rfl) ?_
        refine lv_iload hx hb d_Mo_way_17 (lv_at hl 3 rfl) ?_
        obtain ⟨x1, s2, ho, h⟩ := ct_ob2_some h
        refine ct_callVi C0 hw hl.1 (q0 := 35) (hR.1 35 (by decide) (by decide)) rfl (ct_giV wd_882 wd_884 sel_Mo_find wd_7 wd_885) (fun sz => s_Mo_find l g ws sz hR.rf ho) (nA := 2) (rm := rm_Mo_find) (by decide +kernel) rfl ⟨rfl, rfl⟩ (by decide) (by decide) (As := [.int a1, .int v4]) (rest := []) rfl (Nat.le_of_ble_eq_true rfl) d_Mo_way_19 (fun ws1 H locs hw hp => ?_)
        have hR := hR.trans hp
        clear hp
        generalize ws1 = ws at hw hR
        refine lv_if_eq hx hb (tgt := 37) d_Mo_way_22 (by decide) (fun hc9 => ?_) (fun hc9 => ?_)
        · rw [if_pos hc9] at h
          exact J37 ws H locs ls s2 v4 hw hR (lv_sub hl [0, 1, 2, 3] rfl) h
        · rw [if_neg hc9] at h
          refine lv_aload_n hx hb d_Mo_way_25 rfl (lv_at hl 0 rfl) ?_
          refine lv_aload_n hx hb d_Mo_way_26 rfl (lv_at hl 0 rfl) ?_
          refine gf_Mo_134 C0 hw hR d_Mo_way_27 ?_
          refine lv_aload_n hx hb d_Mo_way_30 rfl (lv_at hl 0 rfl) ?_
          refine gf_Mo_137 C0 hw hR d_Mo_way_31 ?_
          obtain ⟨s3, ho, h⟩ := ct_ob_some h
          refine ct_callVv C0 hw hl.1 (q0 := 35) (hR.1 35 (by decide) (by decide)) rfl (ct_giV wd_918 wd_920 sel_Mo_times wd_7 wd_921) (fun sz => s_Mo_times l g ws sz hR.rf ho) (nA := 2) (rm := rm_Mo_times) (by decide +kernel) rfl ⟨rfl, rfl⟩ (by decide) (by decide) (As := [.long (ms_L s2 4), .long (ms_L s2 5)]) (rest := []) rfl (Nat.le_of_ble_eq_true rfl) d_Mo_way_34 (fun ws1 H locs hw hp => ?_)
          have hR := hR.trans hp
          clear hp
          generalize ws1 = ws at hw hR
          exact J37 ws H locs ls s3 v4 hw hR (lv_sub hl [0, 1, 2, 3] rfl) h
  unfold fn_Mo_way at h
  obtain ⟨ws, hwe⟩ : ∃ z : va_W, z = ws0 := ⟨_, rfl⟩
  rw [← hwe] at hw
  have hR : ms_Rel g ws0 ws s := by rw [hwe]; exact hR
  clear hwe
  refine lv_aload_n hx hb d_Mo_way_0 rfl (lv_at hl 0 rfl) ?_
  refine lv_lconst (v := 1) hx hb d_Mo_way_1 (by decide) ?_
  refine lv_lconst (v := 1) hx hb d_Mo_way_2 (by decide) ?_
  obtain ⟨s4, ho, h⟩ := ct_ob_some h
  refine ct_callVv C0 hw hl.1 (q0 := 35) (hR.1 35 (by decide) (by decide)) rfl (ct_giV wd_894 wd_896 sel_Mo_set wd_7 wd_897) (fun sz => s_Mo_set l g ws sz hR.rf ho) (nA := 2) (rm := rm_Mo_set) (by decide +kernel) rfl ⟨rfl, rfl⟩ (by decide) (by decide) (As := [.long 1, .long 1]) (rest := []) rfl (Nat.le_of_ble_eq_true rfl) d_Mo_way_3 (fun ws1 H locs hw hp => ?_)
  have hR := hR.trans hp
  clear hp
  generalize ws1 = ws at hw hR
  refine lv_iload_n hx hb d_Mo_way_6 rfl (lv_at hl 2 rfl) ?_
  refine lv_istore (lv' := [(4, .int a2), (0, .ref (g.2.1 35)), (1, .int a1), (2, .int a2), (3, .int a3)]) hx hb d_Mo_way_7 hl (by decide) rfl (fun ls hl => ?_)
  exact L9 200 ws H locs ls s4 a2 hw hR (lv_sub hl [1, 2, 4, 0] rfl) h

theorem d_Mo_answer_0 : decode c_Mo_answer 0 = .ok (.aload_n 0, 1) := by decide +kernel
theorem d_Mo_answer_1 : decode c_Mo_answer 1 = .ok (.getfield 97, 3) := by decide +kernel
theorem d_Mo_answer_4 : decode c_Mo_answer 4 = .ok (.ifCond .eq 7, 3) := by decide +kernel
theorem d_Mo_answer_7 : decode c_Mo_answer 7 = .ok (.iconst 3, 1) := by decide +kernel
theorem d_Mo_answer_8 : decode c_Mo_answer 8 = .ok (.goto 4, 3) := by decide +kernel
theorem d_Mo_answer_11 : decode c_Mo_answer 11 = .ok (.iconst 0, 1) := by decide +kernel
theorem d_Mo_answer_12 : decode c_Mo_answer 12 = .ok (.ireturn, 1) := by decide +kernel
set_option maxHeartbeats 4000000 in
set_option maxRecDepth 100000 in
theorem s_Mo_answer (l : Launch) (g : Gx) (ws0 : va_W) (sz : Nat) {s : MS} {res : Int32} (hR : ms_Rel g ws0 ws0 s) (h : fn_Mo_answer s = some res) : ct_MI l y_Mo_answer c_Mo_answer 1 (some .int) rm_Mo_answer g ws0 sz [.ref (g.2.1 35)] res (fun u => u = ws0) := by
  refine ct_starti (by decide +kernel) (Nat.le_of_ble_eq_true rfl) (fun p e sv m args below meth c ls Q A H locs C0 hret hl hw => ?_)
  have hx := C0.1
  have hb := C0.2.1
  have hown := C0.2.2.2.1
  have hts := C0.2.2.2.2.1
  have hl : lv_has ls 1 [(0, .ref (g.2.1 35))] := hl
  unfold fn_Mo_answer at h
  refine lv_aload_n hx hb d_Mo_answer_0 rfl (lv_at hl 0 rfl) ?_
  refine gf_Mo_97 C0 hw hR d_Mo_answer_1 ?_
  refine lv_if_eq hx hb (tgt := 11) d_Mo_answer_4 (by decide) (fun hc9 => ?_) (fun hc9 => ?_)
  · rw [if_pos hc9] at h
    refine lv_iconst (v := 0) hx hb d_Mo_answer_11 (by decide) ?_
    obtain rfl := Option.some.inj h
    exact hret hw rfl d_Mo_answer_12
  · rw [if_neg hc9] at h
    refine lv_iconst (v := 3) hx hb d_Mo_answer_7 (by decide) ?_
    refine lv_goto hx hb (tgt := 12) d_Mo_answer_8 (by decide) ?_
    obtain rfl := Option.some.inj h
    exact hret hw rfl d_Mo_answer_12

theorem d_Mo_latestOf_0 : decode c_Mo_latestOf 0 = .ok (.aload_n 0, 1) := by decide +kernel
theorem d_Mo_latestOf_1 : decode c_Mo_latestOf 1 = .ok (.getfield 52, 3) := by decide +kernel
theorem d_Mo_latestOf_4 : decode c_Mo_latestOf 4 = .ok (.bipush 6, 2) := by decide +kernel
theorem d_Mo_latestOf_6 : decode c_Mo_latestOf 6 = .ok (.iload_n 1, 1) := by decide +kernel
theorem d_Mo_latestOf_7 : decode c_Mo_latestOf 7 = .ok (.imul, 1) := by decide +kernel
theorem d_Mo_latestOf_8 : decode c_Mo_latestOf 8 = .ok (.aload_n 0, 1) := by decide +kernel
theorem d_Mo_latestOf_9 : decode c_Mo_latestOf 9 = .ok (.invokevirtual 100, 3) := by decide +kernel
theorem d_Mo_latestOf_12 : decode c_Mo_latestOf 12 = .ok (.iadd, 1) := by decide +kernel
theorem d_Mo_latestOf_13 : decode c_Mo_latestOf 13 = .ok (.iconst 1, 1) := by decide +kernel
theorem d_Mo_latestOf_14 : decode c_Mo_latestOf 14 = .ok (.isub, 1) := by decide +kernel
theorem d_Mo_latestOf_15 : decode c_Mo_latestOf 15 = .ok (.iload_n 1, 1) := by decide +kernel
theorem d_Mo_latestOf_16 : decode c_Mo_latestOf 16 = .ok (.isub, 1) := by decide +kernel
theorem d_Mo_latestOf_17 : decode c_Mo_latestOf 17 = .ok (.iaload, 1) := by decide +kernel
theorem d_Mo_latestOf_18 : decode c_Mo_latestOf 18 = .ok (.ireturn, 1) := by decide +kernel
set_option maxHeartbeats 4000000 in
set_option maxRecDepth 100000 in
theorem s_Mo_latestOf (l : Launch) (g : Gx) (ws0 : va_W) (sz : Nat) {s : MS} {a1 : Int32} {res : Int32} (hR : ms_Rel g ws0 ws0 s) (h : fn_Mo_latestOf s a1 = some res) : ct_MI l y_Mo_latestOf c_Mo_latestOf 2 (some .int) rm_Mo_latestOf g ws0 sz [.ref (g.2.1 35), .int a1] res (fun u => u = ws0) := by
  refine ct_starti (by decide +kernel) (Nat.le_of_ble_eq_true rfl) (fun p e sv m args below meth c ls Q A H locs C0 hret hl hw => ?_)
  have hx := C0.1
  have hb := C0.2.1
  have hown := C0.2.2.2.1
  have hts := C0.2.2.2.2.1
  have hl : lv_has ls 2 [(0, .ref (g.2.1 35)), (1, .int a1)] := hl
  unfold fn_Mo_latestOf at h
  refine lv_aload_n hx hb d_Mo_latestOf_0 rfl (lv_at hl 0 rfl) ?_
  refine gf_Mo_52 C0 hw hR d_Mo_latestOf_1 ?_
  refine lv_bipush (v := 6) hx hb d_Mo_latestOf_4 (by decide) ?_
  refine lv_iload_n hx hb d_Mo_latestOf_6 rfl (lv_at hl 1 rfl) ?_
  refine lv_imul hx hb d_Mo_latestOf_7 ?_
  refine lv_aload_n hx hb d_Mo_latestOf_8 rfl (lv_at hl 0 rfl) ?_
  obtain ⟨x1, ho, h⟩ := ct_ob_some h
  refine ct_callVi C0 hw hl.1 (q0 := 35) (hR.1 35 (by decide) (by decide)) rfl (ct_giV wd_846 wd_848 sel_Mo_left wd_7 wd_849) (fun sz => s_Mo_left l g ws0 sz hR.rf ho) (nA := 0) (rm := rm_Mo_left) (by decide +kernel) rfl ⟨rfl, rfl⟩ (by decide) (by decide) (As := []) (rest := [.int (6 * a1), .ref (g.2.1 46)]) rfl (Nat.le_of_ble_eq_true rfl) d_Mo_latestOf_9 (fun ws1 H locs hw hp => ?_)
  rw [hp] at hw
  clear hp
  refine lv_iadd hx hb d_Mo_latestOf_12 ?_
  refine lv_iconst (v := 1) hx hb d_Mo_latestOf_13 (by decide) ?_
  refine lv_isub hx hb d_Mo_latestOf_14 ?_
  refine lv_iload_n hx hb d_Mo_latestOf_15 rfl (lv_at hl 1 rfl) ?_
  refine lv_isub hx hb d_Mo_latestOf_16 ?_
  obtain ⟨hg17, h⟩ := ct_gd_some h
  refine ct_ldma8 C0 hw hR (ct_inR_vp hg17) d_Mo_latestOf_17 ?_
  obtain rfl := Option.some.inj h
  exact hret hw rfl d_Mo_latestOf_18

theorem d_Mo_expect_0 : decode c_Mo_expect 0 = .ok (.lconst 0, 1) := by decide +kernel
theorem d_Mo_expect_1 : decode c_Mo_expect 1 = .ok (.lstore_n 2, 1) := by decide +kernel
theorem d_Mo_expect_2 : decode c_Mo_expect 2 = .ok (.iload_n 1, 1) := by decide +kernel
theorem d_Mo_expect_3 : decode c_Mo_expect 3 = .ok (.aload_n 0, 1) := by decide +kernel
theorem d_Mo_expect_4 : decode c_Mo_expect 4 = .ok (.getfield 39, 3) := by decide +kernel
theorem d_Mo_expect_7 : decode c_Mo_expect 7 = .ok (.imul, 1) := by decide +kernel
theorem d_Mo_expect_8 : decode c_Mo_expect 8 = .ok (.istore 4, 2) := by decide +kernel
theorem d_Mo_expect_10 : decode c_Mo_expect 10 = .ok (.iload 4, 2) := by decide +kernel
theorem d_Mo_expect_12 : decode c_Mo_expect 12 = .ok (.iload_n 1, 1) := by decide +kernel
theorem d_Mo_expect_13 : decode c_Mo_expect 13 = .ok (.aload_n 0, 1) := by decide +kernel
theorem d_Mo_expect_14 : decode c_Mo_expect 14 = .ok (.getfield 39, 3) := by decide +kernel
theorem d_Mo_expect_17 : decode c_Mo_expect 17 = .ok (.imul, 1) := by decide +kernel
theorem d_Mo_expect_18 : decode c_Mo_expect 18 = .ok (.aload_n 0, 1) := by decide +kernel
theorem d_Mo_expect_19 : decode c_Mo_expect 19 = .ok (.getfield 39, 3) := by decide +kernel
theorem d_Mo_expect_22 : decode c_Mo_expect 22 = .ok (.iadd, 1) := by decide +kernel
theorem d_Mo_expect_23 : decode c_Mo_expect 23 = .ok (.if_icmp .ge 35, 3) := by decide +kernel
theorem d_Mo_expect_26 : decode c_Mo_expect 26 = .ok (.iload 4, 2) := by decide +kernel
theorem d_Mo_expect_28 : decode c_Mo_expect 28 = .ok (.bipush 72, 2) := by decide +kernel
theorem d_Mo_expect_30 : decode c_Mo_expect 30 = .ok (.if_icmp .ge 28, 3) := by decide +kernel
theorem d_Mo_expect_33 : decode c_Mo_expect 33 = .ok (.lload_n 2, 1) := by decide +kernel
theorem d_Mo_expect_34 : decode c_Mo_expect 34 = .ok (.aload_n 0, 1) := by decide +kernel
theorem d_Mo_expect_35 : decode c_Mo_expect 35 = .ok (.getfield 29, 3) := by decide +kernel
theorem d_Mo_expect_38 : decode c_Mo_expect 38 = .ok (.bipush 72, 2) := by decide +kernel
theorem d_Mo_expect_40 : decode c_Mo_expect 40 = .ok (.aload_n 0, 1) := by decide +kernel
theorem d_Mo_expect_41 : decode c_Mo_expect 41 = .ok (.getfield 80, 3) := by decide +kernel
theorem d_Mo_expect_44 : decode c_Mo_expect 44 = .ok (.imul, 1) := by decide +kernel
theorem d_Mo_expect_45 : decode c_Mo_expect 45 = .ok (.iload 4, 2) := by decide +kernel
theorem d_Mo_expect_47 : decode c_Mo_expect 47 = .ok (.iadd, 1) := by decide +kernel
theorem d_Mo_expect_48 : decode c_Mo_expect 48 = .ok (.iaload, 1) := by decide +kernel
theorem d_Mo_expect_49 : decode c_Mo_expect 49 = .ok (.i2l, 1) := by decide +kernel
theorem d_Mo_expect_50 : decode c_Mo_expect 50 = .ok (.ladd, 1) := by decide +kernel
theorem d_Mo_expect_51 : decode c_Mo_expect 51 = .ok (.lstore_n 2, 1) := by decide +kernel
theorem d_Mo_expect_52 : decode c_Mo_expect 52 = .ok (.iinc 4 1, 3) := by decide +kernel
theorem d_Mo_expect_55 : decode c_Mo_expect 55 = .ok (.goto (-45), 3) := by decide +kernel
theorem d_Mo_expect_58 : decode c_Mo_expect 58 = .ok (.aload_n 0, 1) := by decide +kernel
theorem d_Mo_expect_59 : decode c_Mo_expect 59 = .ok (.lload_n 2, 1) := by decide +kernel
theorem d_Mo_expect_60 : decode c_Mo_expect 60 = .ok (.lconst 1, 1) := by decide +kernel
theorem d_Mo_expect_61 : decode c_Mo_expect 61 = .ok (.invokevirtual 125, 3) := by decide +kernel
theorem d_Mo_expect_64 : decode c_Mo_expect 64 = .ok (.aload_n 0, 1) := by decide +kernel
theorem d_Mo_expect_65 : decode c_Mo_expect 65 = .ok (.aload_n 0, 1) := by decide +kernel
theorem d_Mo_expect_66 : decode c_Mo_expect 66 = .ok (.getfield 32, 3) := by decide +kernel
theorem d_Mo_expect_69 : decode c_Mo_expect 69 = .ok (.aload_n 0, 1) := by decide +kernel
theorem d_Mo_expect_70 : decode c_Mo_expect 70 = .ok (.getfield 80, 3) := by decide +kernel
theorem d_Mo_expect_73 : decode c_Mo_expect 73 = .ok (.laload, 1) := by decide +kernel
theorem d_Mo_expect_74 : decode c_Mo_expect 74 = .ok (.aload_n 0, 1) := by decide +kernel
theorem d_Mo_expect_75 : decode c_Mo_expect 75 = .ok (.getfield 36, 3) := by decide +kernel
theorem d_Mo_expect_78 : decode c_Mo_expect 78 = .ok (.aload_n 0, 1) := by decide +kernel
theorem d_Mo_expect_79 : decode c_Mo_expect 79 = .ok (.getfield 80, 3) := by decide +kernel
theorem d_Mo_expect_82 : decode c_Mo_expect 82 = .ok (.laload, 1) := by decide +kernel
theorem d_Mo_expect_83 : decode c_Mo_expect 83 = .ok (.invokevirtual 143, 3) := by decide +kernel
theorem d_Mo_expect_86 : decode c_Mo_expect 86 = .ok (.aload_n 0, 1) := by decide +kernel
theorem d_Mo_expect_87 : decode c_Mo_expect 87 = .ok (.aload_n 0, 1) := by decide +kernel
theorem d_Mo_expect_88 : decode c_Mo_expect 88 = .ok (.getfield 114, 3) := by decide +kernel
theorem d_Mo_expect_91 : decode c_Mo_expect 91 = .ok (.putfield 146, 3) := by decide +kernel
theorem d_Mo_expect_94 : decode c_Mo_expect 94 = .ok (.aload_n 0, 1) := by decide +kernel
theorem d_Mo_expect_95 : decode c_Mo_expect 95 = .ok (.aload_n 0, 1) := by decide +kernel
theorem d_Mo_expect_96 : decode c_Mo_expect 96 = .ok (.getfield 118, 3) := by decide +kernel
theorem d_Mo_expect_99 : decode c_Mo_expect 99 = .ok (.putfield 149, 3) := by decide +kernel
theorem d_Mo_expect_102 : decode c_Mo_expect 102 = .ok (.return_, 1) := by decide +kernel
set_option maxHeartbeats 4000000 in
set_option maxRecDepth 100000 in
theorem s_Mo_expect (l : Launch) (g : Gx) (ws0 : va_W) (sz : Nat) {s : MS} {a1 : Int32} {res : MS} (hR : ms_Rel g ws0 ws0 s) (h : fn_Mo_expect s a1 = some res) : ct_MV l y_Mo_expect c_Mo_expect 5 none rm_Mo_expect g ws0 sz [.ref (g.2.1 35), .int a1]  (fun u => ms_Rel g ws0 u res) := by
  refine ct_startv (by decide +kernel) (Nat.le_of_ble_eq_true rfl) (fun p e sv m args below meth c ls Q A H locs C0 hret hl hw => ?_)
  have hx := C0.1
  have hb := C0.2.1
  have hown := C0.2.2.2.1
  have hts := C0.2.2.2.2.1
  have hl : lv_has ls 5 [(0, .ref (g.2.1 35)), (1, .int a1)] := hl
  have J58 : ∀ (ws : va_W) (H : Heap) (locs : List Loc) (ls : Array Slot) (s : MS) (v2 : Int64), ct_Wd g A sv ws H locs → ms_Rel g ws0 ws s → lv_has ls 5 [(0, .ref (g.2.1 35)), (2, .long v2)] → bk_Mo_expect_58 a1 s v2 = some res → W p l e rm_Mo_expect sv m args below meth c H locs 0 0 Q (F0 m 58 ls []) := by
    intro ws H locs ls s v2 hw hR hl h
    unfold bk_Mo_expect_58 at h
    refine lv_aload_n hx hb d_Mo_expect_58 rfl (lv_at hl 0 rfl) ?_
    refine lv_lload_n hx hb d_Mo_expect_59 rfl (lv_at hl 1 rfl) ?_
    refine lv_lconst (v := 1) hx hb d_Mo_expect_60 (by decide) ?_
    obtain ⟨s1, ho, h⟩ := ct_ob_some h
    refine ct_callVv C0 hw hl.1 (q0 := 35) (hR.1 35 (by decide) (by decide)) rfl (ct_giV wd_894 wd_896 sel_Mo_set wd_7 wd_897) (fun sz => s_Mo_set l g ws sz hR.rf ho) (nA := 2) (rm := rm_Mo_set) (by decide +kernel) rfl ⟨rfl, rfl⟩ (by decide) (by decide) (As := [.long v2, .long 1]) (rest := []) rfl (Nat.le_of_ble_eq_true rfl) d_Mo_expect_61 (fun ws1 H locs hw hp => ?_)
    have hR := hR.trans hp
    clear hp
    generalize ws1 = ws at hw hR
    refine lv_aload_n hx hb d_Mo_expect_64 rfl (lv_at hl 0 rfl) ?_
    refine lv_aload_n hx hb d_Mo_expect_65 rfl (lv_at hl 0 rfl) ?_
    refine gf_Mo_32 C0 hw hR d_Mo_expect_66 ?_
    refine lv_aload_n hx hb d_Mo_expect_69 rfl (lv_at hl 0 rfl) ?_
    refine gf_Mo_80 C0 hw hR d_Mo_expect_70 ?_
    obtain ⟨hg73, h⟩ := ct_gd_some h
    refine ct_ldml0 C0 hw hR (ct_inR_vp hg73) d_Mo_expect_73 ?_
    refine lv_aload_n hx hb d_Mo_expect_74 rfl (lv_at hl 0 rfl) ?_
    refine gf_Mo_36 C0 hw hR d_Mo_expect_75 ?_
    refine lv_aload_n hx hb d_Mo_expect_78 rfl (lv_at hl 0 rfl) ?_
    refine gf_Mo_80 C0 hw hR d_Mo_expect_79 ?_
    obtain ⟨hg82, h⟩ := ct_gd_some h
    refine ct_ldml1 C0 hw hR (ct_inR_vp hg82) d_Mo_expect_82 ?_
    obtain ⟨s2, ho, h⟩ := ct_ob_some h
    refine ct_callVv C0 hw hl.1 (q0 := 35) (hR.1 35 (by decide) (by decide)) rfl (ct_giV wd_918 wd_920 sel_Mo_times wd_7 wd_921) (fun sz => s_Mo_times l g ws sz hR.rf ho) (nA := 2) (rm := rm_Mo_times) (by decide +kernel) rfl ⟨rfl, rfl⟩ (by decide) (by decide) (As := [.long (ms_B s1 0 (ms_I s1 2).toNatClampNeg), .long (ms_B s1 1 (ms_I s1 2).toNatClampNeg)]) (rest := []) rfl (Nat.le_of_ble_eq_true rfl) d_Mo_expect_83 (fun ws1 H locs hw hp => ?_)
    have hR := hR.trans hp
    clear hp
    generalize ws1 = ws at hw hR
    refine lv_aload_n hx hb d_Mo_expect_86 rfl (lv_at hl 0 rfl) ?_
    refine lv_aload_n hx hb d_Mo_expect_87 rfl (lv_at hl 0 rfl) ?_
    refine gf_Mo_114 C0 hw hR d_Mo_expect_88 ?_
    refine pf_Mo_146 C0 hw hR d_Mo_expect_91 (fun ws H locs hw hR => ?_)
    obtain ⟨s3, es9, h⟩ := ct_nm_ex h
    rw [← es9] at hR
    clear es9
    refine lv_aload_n hx hb d_Mo_expect_94 rfl (lv_at hl 0 rfl) ?_
    refine lv_aload_n hx hb d_Mo_expect_95 rfl (lv_at hl 0 rfl) ?_
    refine gf_Mo_118 C0 hw hR d_Mo_expect_96 ?_
    refine pf_Mo_149 C0 hw hR d_Mo_expect_99 (fun ws H locs hw hR => ?_)
    obtain ⟨s4, es9, h⟩ := ct_nm_ex h
    rw [← es9] at hR
    clear es9
    obtain rfl := Option.some.inj h
    exact hret hw hR d_Mo_expect_102
  have L10 : ∀ (n10 : Nat) (ws : va_W) (H : Heap) (locs : List Loc) (ls : Array Slot) (s : MS) (v2 : Int64) (v4 : Int32), ct_Wd g A sv ws H locs → ms_Rel g ws0 ws s → lv_has ls 5 [(0, .ref (g.2.1 35)), (1, .int a1), (2, .long v2), (4, .int v4)] → bk_Mo_expect_10 a1 n10 s v2 v4 = some res → W p l e rm_Mo_expect sv m args below meth c H locs 0 0 Q (F0 m 10 ls []) := by
    intro n10
    induction n10 with
    | zero =>
      intro ws H locs ls s v2 v4 hw hR hl h
      exact absurd h (by simp [bk_Mo_expect_10])
    | succ n10 ih10 =>
      intro ws H locs ls s v2 v4 hw hR hl h
      have h : bk_Mo_expect_10_o a1 (bk_Mo_expect_10 a1 n10) s v2 v4 = some res := h
      unfold bk_Mo_expect_10_o at h
      refine lv_iload hx hb d_Mo_expect_10 (lv_at hl 3 rfl) ?_
      refine lv_iload_n hx hb d_Mo_expect_12 rfl (lv_at hl 1 rfl) ?_
      refine lv_aload_n hx hb d_Mo_expect_13 rfl (lv_at hl 0 rfl) ?_
      refine gf_Mo_39 C0 hw hR d_Mo_expect_14 ?_
      refine lv_imul hx hb d_Mo_expect_17 ?_
      refine lv_aload_n hx hb d_Mo_expect_18 rfl (lv_at hl 0 rfl) ?_
      refine gf_Mo_39 C0 hw hR d_Mo_expect_19 ?_
      refine lv_iadd hx hb d_Mo_expect_22 ?_
      refine lv_icmp_ge hx hb (tgt := 58) d_Mo_expect_23 (by decide) (fun hc9 => ?_) (fun hc9 => ?_)
      · rw [if_pos hc9] at h
        exact J58 ws H locs ls s v2 hw hR (lv_sub hl [0, 2] rfl) h
      · rw [if_neg hc9] at h
        refine lv_iload hx hb d_Mo_expect_26 (lv_at hl 3 rfl) ?_
        refine lv_bipush (v := 72) hx hb d_Mo_expect_28 (by decide) ?_
        refine lv_icmp_ge hx hb (tgt := 58) d_Mo_expect_30 (by decide) (fun hc9 => ?_) (fun hc9 => ?_)
        · rw [if_pos hc9] at h
          exact J58 ws H locs ls s v2 hw hR (lv_sub hl [0, 2] rfl) h
        · rw [if_neg hc9] at h
          refine lv_lload_n hx hb d_Mo_expect_33 rfl (lv_at hl 2 rfl) ?_
          refine lv_aload_n hx hb d_Mo_expect_34 rfl (lv_at hl 0 rfl) ?_
          refine gf_Mo_29 C0 hw hR d_Mo_expect_35 ?_
          refine lv_bipush (v := 72) hx hb d_Mo_expect_38 (by decide) ?_
          refine lv_aload_n hx hb d_Mo_expect_40 rfl (lv_at hl 0 rfl) ?_
          refine gf_Mo_80 C0 hw hR d_Mo_expect_41 ?_
          refine lv_imul hx hb d_Mo_expect_44 ?_
          refine lv_iload hx hb d_Mo_expect_45 (lv_at hl 3 rfl) ?_
          refine lv_iadd hx hb d_Mo_expect_47 ?_
          obtain ⟨hg48, h⟩ := ct_gd_some h
          refine ct_ldma6 C0 hw hR (ct_inR_vp hg48) d_Mo_expect_48 ?_
          refine lv_i2l hx hb d_Mo_expect_49 rfl ?_
          refine lv_ladd hx hb d_Mo_expect_50 ?_
          refine lv_topl (fun x5 e9 => ?_)
          have h := ct_nm_at h e9
          clear e9
          refine lv_lstore_n (lv' := [(2, .long x5), (0, .ref (g.2.1 35)), (1, .int a1), (4, .int v4)]) hx hb d_Mo_expect_51 rfl hl (by decide) rfl (fun ls hl => ?_)
          refine lv_iinc (v := v4 + 1) (k := 3) (lv' := [(4, .int (v4 + 1)), (2, .long x5), (0, .ref (g.2.1 35)), (1, .int a1)]) hx hb d_Mo_expect_52 hl rfl rfl (by decide) rfl (fun ls hl => ?_)
          refine lv_goto hx hb (tgt := 10) d_Mo_expect_55 (by decide) ?_
          exact ih10 ws H locs ls s x5 (v4 + 1) hw hR (lv_sub hl [2, 3, 1, 0] rfl) h
  unfold fn_Mo_expect at h
  obtain ⟨ws, hwe⟩ : ∃ z : va_W, z = ws0 := ⟨_, rfl⟩
  rw [← hwe] at hw
  have hR : ms_Rel g ws0 ws s := by rw [hwe]; exact hR
  clear hwe
  refine lv_lconst (v := 0) hx hb d_Mo_expect_0 (by decide) ?_
  refine lv_lstore_n (lv' := [(2, .long 0), (0, .ref (g.2.1 35)), (1, .int a1)]) hx hb d_Mo_expect_1 rfl hl (by decide) rfl (fun ls hl => ?_)
  refine lv_iload_n hx hb d_Mo_expect_2 rfl (lv_at hl 2 rfl) ?_
  refine lv_aload_n hx hb d_Mo_expect_3 rfl (lv_at hl 1 rfl) ?_
  refine gf_Mo_39 C0 hw hR d_Mo_expect_4 ?_
  refine lv_imul hx hb d_Mo_expect_7 ?_
  refine lv_topi (fun x6 e9 => ?_)
  have h := ct_nm_at h e9
  clear e9
  refine lv_istore (lv' := [(4, .int x6), (2, .long 0), (0, .ref (g.2.1 35)), (1, .int a1)]) hx hb d_Mo_expect_8 hl (by decide) rfl (fun ls hl => ?_)
  exact L10 200 ws H locs ls s 0 x6 hw hR (lv_sub hl [2, 3, 1, 0] rfl) h

theorem d_Mo_work_0 : decode c_Mo_work 0 = .ok (.aload_n 0, 1) := by decide +kernel
theorem d_Mo_work_1 : decode c_Mo_work 1 = .ok (.invokevirtual 100, 3) := by decide +kernel
theorem d_Mo_work_4 : decode c_Mo_work 4 = .ok (.istore_n 3, 1) := by decide +kernel
theorem d_Mo_work_5 : decode c_Mo_work 5 = .ok (.aload_n 0, 1) := by decide +kernel
theorem d_Mo_work_6 : decode c_Mo_work 6 = .ok (.iconst 0, 1) := by decide +kernel
theorem d_Mo_work_7 : decode c_Mo_work 7 = .ok (.putfield 97, 3) := by decide +kernel
theorem d_Mo_work_10 : decode c_Mo_work 10 = .ok (.iload_n 1, 1) := by decide +kernel
theorem d_Mo_work_11 : decode c_Mo_work 11 = .ok (.iconst 2, 1) := by decide +kernel
theorem d_Mo_work_12 : decode c_Mo_work 12 = .ok (.if_icmp .ne 13, 3) := by decide +kernel
theorem d_Mo_work_15 : decode c_Mo_work 15 = .ok (.aload_n 0, 1) := by decide +kernel
theorem d_Mo_work_16 : decode c_Mo_work 16 = .ok (.iload_n 2, 1) := by decide +kernel
theorem d_Mo_work_17 : decode c_Mo_work 17 = .ok (.invokevirtual 152, 3) := by decide +kernel
theorem d_Mo_work_20 : decode c_Mo_work 20 = .ok (.aload_n 0, 1) := by decide +kernel
theorem d_Mo_work_21 : decode c_Mo_work 21 = .ok (.invokevirtual 156, 3) := by decide +kernel
theorem d_Mo_work_24 : decode c_Mo_work 24 = .ok (.ireturn, 1) := by decide +kernel
theorem d_Mo_work_25 : decode c_Mo_work 25 = .ok (.iload_n 1, 1) := by decide +kernel
theorem d_Mo_work_26 : decode c_Mo_work 26 = .ok (.iconst 1, 1) := by decide +kernel
theorem d_Mo_work_27 : decode c_Mo_work 27 = .ok (.if_icmp .ne 7, 3) := by decide +kernel
theorem d_Mo_work_30 : decode c_Mo_work 30 = .ok (.iconst 1, 1) := by decide +kernel
theorem d_Mo_work_31 : decode c_Mo_work 31 = .ok (.goto 4, 3) := by decide +kernel
theorem d_Mo_work_34 : decode c_Mo_work 34 = .ok (.iconst 0, 1) := by decide +kernel
theorem d_Mo_work_35 : decode c_Mo_work 35 = .ok (.istore 4, 2) := by decide +kernel
theorem d_Mo_work_37 : decode c_Mo_work 37 = .ok (.aload_n 0, 1) := by decide +kernel
theorem d_Mo_work_38 : decode c_Mo_work 38 = .ok (.iload 4, 2) := by decide +kernel
theorem d_Mo_work_40 : decode c_Mo_work 40 = .ok (.iload_n 3, 1) := by decide +kernel
theorem d_Mo_work_41 : decode c_Mo_work 41 = .ok (.iconst 1, 1) := by decide +kernel
theorem d_Mo_work_42 : decode c_Mo_work 42 = .ok (.isub, 1) := by decide +kernel
theorem d_Mo_work_43 : decode c_Mo_work 43 = .ok (.iload_n 2, 1) := by decide +kernel
theorem d_Mo_work_44 : decode c_Mo_work 44 = .ok (.isub, 1) := by decide +kernel
theorem d_Mo_work_45 : decode c_Mo_work 45 = .ok (.iload_n 3, 1) := by decide +kernel
theorem d_Mo_work_46 : decode c_Mo_work 46 = .ok (.iconst 2, 1) := by decide +kernel
theorem d_Mo_work_47 : decode c_Mo_work 47 = .ok (.isub, 1) := by decide +kernel
theorem d_Mo_work_48 : decode c_Mo_work 48 = .ok (.invokevirtual 159, 3) := by decide +kernel
theorem d_Mo_work_51 : decode c_Mo_work 51 = .ok (.ifCond .ne 5, 3) := by decide +kernel
theorem d_Mo_work_54 : decode c_Mo_work 54 = .ok (.iconst 2, 1) := by decide +kernel
theorem d_Mo_work_55 : decode c_Mo_work 55 = .ok (.ireturn, 1) := by decide +kernel
theorem d_Mo_work_56 : decode c_Mo_work 56 = .ok (.iload_n 1, 1) := by decide +kernel
theorem d_Mo_work_57 : decode c_Mo_work 57 = .ok (.iconst 3, 1) := by decide +kernel
theorem d_Mo_work_58 : decode c_Mo_work 58 = .ok (.if_icmp .ne 8, 3) := by decide +kernel
theorem d_Mo_work_61 : decode c_Mo_work 61 = .ok (.aload_n 0, 1) := by decide +kernel
theorem d_Mo_work_62 : decode c_Mo_work 62 = .ok (.iload_n 2, 1) := by decide +kernel
theorem d_Mo_work_63 : decode c_Mo_work 63 = .ok (.invokevirtual 152, 3) := by decide +kernel
theorem d_Mo_work_66 : decode c_Mo_work 66 = .ok (.aload_n 0, 1) := by decide +kernel
theorem d_Mo_work_67 : decode c_Mo_work 67 = .ok (.iload 4, 2) := by decide +kernel
theorem d_Mo_work_69 : decode c_Mo_work 69 = .ok (.iload_n 3, 1) := by decide +kernel
theorem d_Mo_work_70 : decode c_Mo_work 70 = .ok (.iconst 1, 1) := by decide +kernel
theorem d_Mo_work_71 : decode c_Mo_work 71 = .ok (.isub, 1) := by decide +kernel
theorem d_Mo_work_72 : decode c_Mo_work 72 = .ok (.iload_n 2, 1) := by decide +kernel
theorem d_Mo_work_73 : decode c_Mo_work 73 = .ok (.isub, 1) := by decide +kernel
theorem d_Mo_work_74 : decode c_Mo_work 74 = .ok (.iload_n 3, 1) := by decide +kernel
theorem d_Mo_work_75 : decode c_Mo_work 75 = .ok (.iconst 2, 1) := by decide +kernel
theorem d_Mo_work_76 : decode c_Mo_work 76 = .ok (.isub, 1) := by decide +kernel
theorem d_Mo_work_77 : decode c_Mo_work 77 = .ok (.invokevirtual 162, 3) := by decide +kernel
theorem d_Mo_work_80 : decode c_Mo_work 80 = .ok (.aload_n 0, 1) := by decide +kernel
theorem d_Mo_work_81 : decode c_Mo_work 81 = .ok (.aload_n 0, 1) := by decide +kernel
theorem d_Mo_work_82 : decode c_Mo_work 82 = .ok (.getfield 32, 3) := by decide +kernel
theorem d_Mo_work_85 : decode c_Mo_work 85 = .ok (.iconst 2, 1) := by decide +kernel
theorem d_Mo_work_86 : decode c_Mo_work 86 = .ok (.laload, 1) := by decide +kernel
theorem d_Mo_work_87 : decode c_Mo_work 87 = .ok (.aload_n 0, 1) := by decide +kernel
theorem d_Mo_work_88 : decode c_Mo_work 88 = .ok (.getfield 36, 3) := by decide +kernel
theorem d_Mo_work_91 : decode c_Mo_work 91 = .ok (.iconst 2, 1) := by decide +kernel
theorem d_Mo_work_92 : decode c_Mo_work 92 = .ok (.laload, 1) := by decide +kernel
theorem d_Mo_work_93 : decode c_Mo_work 93 = .ok (.invokevirtual 143, 3) := by decide +kernel
theorem d_Mo_work_96 : decode c_Mo_work 96 = .ok (.iload_n 1, 1) := by decide +kernel
theorem d_Mo_work_97 : decode c_Mo_work 97 = .ok (.iconst 3, 1) := by decide +kernel
theorem d_Mo_work_98 : decode c_Mo_work 98 = .ok (.if_icmp .eq 19, 3) := by decide +kernel
theorem d_Mo_work_101 : decode c_Mo_work 101 = .ok (.aload_n 0, 1) := by decide +kernel
theorem d_Mo_work_102 : decode c_Mo_work 102 = .ok (.aload_n 0, 1) := by decide +kernel
theorem d_Mo_work_103 : decode c_Mo_work 103 = .ok (.iload_n 2, 1) := by decide +kernel
theorem d_Mo_work_104 : decode c_Mo_work 104 = .ok (.invokevirtual 166, 3) := by decide +kernel
theorem d_Mo_work_107 : decode c_Mo_work 107 = .ok (.i2l, 1) := by decide +kernel
theorem d_Mo_work_108 : decode c_Mo_work 108 = .ok (.lconst 1, 1) := by decide +kernel
theorem d_Mo_work_109 : decode c_Mo_work 109 = .ok (.invokevirtual 143, 3) := by decide +kernel
theorem d_Mo_work_112 : decode c_Mo_work 112 = .ok (.aload_n 0, 1) := by decide +kernel
theorem d_Mo_work_113 : decode c_Mo_work 113 = .ok (.invokevirtual 156, 3) := by decide +kernel
theorem d_Mo_work_116 : decode c_Mo_work 116 = .ok (.ireturn, 1) := by decide +kernel
theorem d_Mo_work_117 : decode c_Mo_work 117 = .ok (.aload_n 0, 1) := by decide +kernel
theorem d_Mo_work_118 : decode c_Mo_work 118 = .ok (.getfield 97, 3) := by decide +kernel
theorem d_Mo_work_121 : decode c_Mo_work 121 = .ok (.ifCond .ne 14, 3) := by decide +kernel
theorem d_Mo_work_124 : decode c_Mo_work 124 = .ok (.aload_n 0, 1) := by decide +kernel
theorem d_Mo_work_125 : decode c_Mo_work 125 = .ok (.getfield 114, 3) := by decide +kernel
theorem d_Mo_work_128 : decode c_Mo_work 128 = .ok (.lconst 0, 1) := by decide +kernel
theorem d_Mo_work_129 : decode c_Mo_work 129 = .ok (.lcmp, 1) := by decide +kernel
theorem d_Mo_work_130 : decode c_Mo_work 130 = .ok (.ifCond .ne 5, 3) := by decide +kernel
theorem d_Mo_work_133 : decode c_Mo_work 133 = .ok (.iconst 2, 1) := by decide +kernel
theorem d_Mo_work_134 : decode c_Mo_work 134 = .ok (.ireturn, 1) := by decide +kernel
theorem d_Mo_work_135 : decode c_Mo_work 135 = .ok (.aload_n 0, 1) := by decide +kernel
theorem d_Mo_work_136 : decode c_Mo_work 136 = .ok (.invokevirtual 170, 3) := by decide +kernel
theorem d_Mo_work_139 : decode c_Mo_work 139 = .ok (.aload_n 0, 1) := by decide +kernel
theorem d_Mo_work_140 : decode c_Mo_work 140 = .ok (.aload_n 0, 1) := by decide +kernel
theorem d_Mo_work_141 : decode c_Mo_work 141 = .ok (.getfield 114, 3) := by decide +kernel
theorem d_Mo_work_144 : decode c_Mo_work 144 = .ok (.lneg, 1) := by decide +kernel
theorem d_Mo_work_145 : decode c_Mo_work 145 = .ok (.putfield 114, 3) := by decide +kernel
theorem d_Mo_work_148 : decode c_Mo_work 148 = .ok (.aload_n 0, 1) := by decide +kernel
theorem d_Mo_work_149 : decode c_Mo_work 149 = .ok (.lconst 1, 1) := by decide +kernel
theorem d_Mo_work_150 : decode c_Mo_work 150 = .ok (.lconst 1, 1) := by decide +kernel
theorem d_Mo_work_151 : decode c_Mo_work 151 = .ok (.invokevirtual 173, 3) := by decide +kernel
theorem d_Mo_work_154 : decode c_Mo_work 154 = .ok (.aload_n 0, 1) := by decide +kernel
theorem d_Mo_work_155 : decode c_Mo_work 155 = .ok (.aload_n 0, 1) := by decide +kernel
theorem d_Mo_work_156 : decode c_Mo_work 156 = .ok (.getfield 146, 3) := by decide +kernel
theorem d_Mo_work_159 : decode c_Mo_work 159 = .ok (.aload_n 0, 1) := by decide +kernel
theorem d_Mo_work_160 : decode c_Mo_work 160 = .ok (.getfield 149, 3) := by decide +kernel
theorem d_Mo_work_163 : decode c_Mo_work 163 = .ok (.invokevirtual 143, 3) := by decide +kernel
theorem d_Mo_work_166 : decode c_Mo_work 166 = .ok (.aload_n 0, 1) := by decide +kernel
theorem d_Mo_work_167 : decode c_Mo_work 167 = .ok (.aload_n 0, 1) := by decide +kernel
theorem d_Mo_work_168 : decode c_Mo_work 168 = .ok (.iload_n 2, 1) := by decide +kernel
theorem d_Mo_work_169 : decode c_Mo_work 169 = .ok (.invokevirtual 166, 3) := by decide +kernel
theorem d_Mo_work_172 : decode c_Mo_work 172 = .ok (.i2l, 1) := by decide +kernel
theorem d_Mo_work_173 : decode c_Mo_work 173 = .ok (.lconst 1, 1) := by decide +kernel
theorem d_Mo_work_174 : decode c_Mo_work 174 = .ok (.invokevirtual 173, 3) := by decide +kernel
theorem d_Mo_work_177 : decode c_Mo_work 177 = .ok (.aload_n 0, 1) := by decide +kernel
theorem d_Mo_work_178 : decode c_Mo_work 178 = .ok (.invokevirtual 156, 3) := by decide +kernel
theorem d_Mo_work_181 : decode c_Mo_work 181 = .ok (.ireturn, 1) := by decide +kernel
set_option maxHeartbeats 4000000 in
set_option maxRecDepth 100000 in
theorem s_Mo_work (l : Launch) (g : Gx) (ws0 : va_W) (sz : Nat) {s : MS} {a1 : Int32} {a2 : Int32} {res : (Int32 × MS)} (hR : ms_Rel g ws0 ws0 s) (h : fn_Mo_work s a1 a2 = some res) : ct_MI l y_Mo_work c_Mo_work 5 (some .int) rm_Mo_work g ws0 sz [.ref (g.2.1 35), .int a1, .int a2] res.1 (fun u => ms_Rel g ws0 u res.2) := by
  refine ct_starti (by decide +kernel) (Nat.le_of_ble_eq_true rfl) (fun p e sv m args below meth c ls Q A H locs C0 hret hl hw => ?_)
  have hx := C0.1
  have hb := C0.2.1
  have hown := C0.2.2.2.1
  have hts := C0.2.2.2.2.1
  have hl : lv_has ls 5 [(0, .ref (g.2.1 35)), (1, .int a1), (2, .int a2)] := hl
  have J135 : ∀ (ws : va_W) (H : Heap) (locs : List Loc) (ls : Array Slot) (s : MS), ct_Wd g A sv ws H locs → ms_Rel g ws0 ws s → lv_has ls 5 [(0, .ref (g.2.1 35)), (2, .int a2)] → bk_Mo_work_135 a1 a2 s = some res → W p l e rm_Mo_work sv m args below meth c H locs 0 0 Q (F0 m 135 ls []) := by
    intro ws H locs ls s hw hR hl h
    unfold bk_Mo_work_135 at h
    refine lv_aload_n hx hb d_Mo_work_135 rfl (lv_at hl 0 rfl) ?_
    obtain ⟨s1, ho, h⟩ := ct_ob_some h
    refine ct_callVv C0 hw hl.1 (q0 := 35) (hR.1 35 (by decide) (by decide)) rfl (ct_giV wd_943 wd_945 sel_Mo_turn wd_7 wd_946) (fun sz => s_Mo_turn l g ws sz hR.rf ho) (nA := 0) (rm := rm_Mo_turn) (by decide +kernel) rfl ⟨rfl, rfl⟩ (by decide) (by decide) (As := []) (rest := []) rfl (Nat.le_of_ble_eq_true rfl) d_Mo_work_136 (fun ws1 H locs hw hp => ?_)
    have hR := hR.trans hp
    clear hp
    generalize ws1 = ws at hw hR
    refine lv_aload_n hx hb d_Mo_work_139 rfl (lv_at hl 0 rfl) ?_
    refine lv_aload_n hx hb d_Mo_work_140 rfl (lv_at hl 0 rfl) ?_
    refine gf_Mo_114 C0 hw hR d_Mo_work_141 ?_
    refine lv_lneg hx hb d_Mo_work_144 ?_
    refine pf_Mo_114 C0 hw hR d_Mo_work_145 (fun ws H locs hw hR => ?_)
    obtain ⟨s2, es9, h⟩ := ct_nm_ex h
    rw [← es9] at hR
    clear es9
    refine lv_aload_n hx hb d_Mo_work_148 rfl (lv_at hl 0 rfl) ?_
    refine lv_lconst (v := 1) hx hb d_Mo_work_149 (by decide) ?_
    refine lv_lconst (v := 1) hx hb d_Mo_work_150 (by decide) ?_
    obtain ⟨s3, ho, h⟩ := ct_ob_some h
    refine ct_callVv C0 hw hl.1 (q0 := 35) (hR.1 35 (by decide) (by decide)) rfl (ct_giV wd_947 wd_949 sel_Mo_plus wd_7 wd_950) (fun sz => s_Mo_plus l g ws sz hR.rf ho) (nA := 2) (rm := rm_Mo_plus) (by decide +kernel) rfl ⟨rfl, rfl⟩ (by decide) (by decide) (As := [.long 1, .long 1]) (rest := []) rfl (Nat.le_of_ble_eq_true rfl) d_Mo_work_151 (fun ws1 H locs hw hp => ?_)
    have hR := hR.trans hp
    clear hp
    generalize ws1 = ws at hw hR
    refine lv_aload_n hx hb d_Mo_work_154 rfl (lv_at hl 0 rfl) ?_
    refine lv_aload_n hx hb d_Mo_work_155 rfl (lv_at hl 0 rfl) ?_
    refine gf_Mo_146 C0 hw hR d_Mo_work_156 ?_
    refine lv_aload_n hx hb d_Mo_work_159 rfl (lv_at hl 0 rfl) ?_
    refine gf_Mo_149 C0 hw hR d_Mo_work_160 ?_
    obtain ⟨s4, ho, h⟩ := ct_ob_some h
    refine ct_callVv C0 hw hl.1 (q0 := 35) (hR.1 35 (by decide) (by decide)) rfl (ct_giV wd_918 wd_920 sel_Mo_times wd_7 wd_921) (fun sz => s_Mo_times l g ws sz hR.rf ho) (nA := 2) (rm := rm_Mo_times) (by decide +kernel) rfl ⟨rfl, rfl⟩ (by decide) (by decide) (As := [.long (ms_L s3 2), .long (ms_L s3 3)]) (rest := []) rfl (Nat.le_of_ble_eq_true rfl) d_Mo_work_163 (fun ws1 H locs hw hp => ?_)
    have hR := hR.trans hp
    clear hp
    generalize ws1 = ws at hw hR
    refine lv_aload_n hx hb d_Mo_work_166 rfl (lv_at hl 0 rfl) ?_
    refine lv_aload_n hx hb d_Mo_work_167 rfl (lv_at hl 0 rfl) ?_
    refine lv_iload_n hx hb d_Mo_work_168 rfl (lv_at hl 1 rfl) ?_
    obtain ⟨x5, ho, h⟩ := ct_ob_some h
    refine ct_callVi C0 hw hl.1 (q0 := 35) (hR.1 35 (by decide) (by decide)) rfl (ct_giV wd_939 wd_941 sel_Mo_latestOf wd_7 wd_942) (fun sz => s_Mo_latestOf l g ws sz hR.rf ho) (nA := 1) (rm := rm_Mo_latestOf) (by decide +kernel) rfl ⟨rfl, rfl⟩ (by decide) (by decide) (As := [.int a2]) (rest := [.ref (g.2.1 35)]) rfl (Nat.le_of_ble_eq_true rfl) d_Mo_work_169 (fun ws1 H locs hw hp => ?_)
    rw [hp] at hw
    clear hp
    refine lv_i2l hx hb d_Mo_work_172 rfl ?_
    refine lv_lconst (v := 1) hx hb d_Mo_work_173 (by decide) ?_
    obtain ⟨s6, ho, h⟩ := ct_ob_some h
    refine ct_callVv C0 hw hl.1 (q0 := 35) (hR.1 35 (by decide) (by decide)) rfl (ct_giV wd_947 wd_949 sel_Mo_plus wd_7 wd_950) (fun sz => s_Mo_plus l g ws sz hR.rf ho) (nA := 2) (rm := rm_Mo_plus) (by decide +kernel) rfl ⟨rfl, rfl⟩ (by decide) (by decide) (As := [.long x5.toInt64, .long 1]) (rest := []) rfl (Nat.le_of_ble_eq_true rfl) d_Mo_work_174 (fun ws1 H locs hw hp => ?_)
    have hR := hR.trans hp
    clear hp
    generalize ws1 = ws at hw hR
    refine lv_aload_n hx hb d_Mo_work_177 rfl (lv_at hl 0 rfl) ?_
    obtain ⟨x7, ho, h⟩ := ct_ob_some h
    refine ct_callVi C0 hw hl.1 (q0 := 35) (hR.1 35 (by decide) (by decide)) rfl (ct_giV wd_927 wd_929 sel_Mo_answer wd_7 wd_930) (fun sz => s_Mo_answer l g ws sz hR.rf ho) (nA := 0) (rm := rm_Mo_answer) (by decide +kernel) rfl ⟨rfl, rfl⟩ (by decide) (by decide) (As := []) (rest := []) rfl (Nat.le_of_ble_eq_true rfl) d_Mo_work_178 (fun ws1 H locs hw hp => ?_)
    rw [hp] at hw
    clear hp
    obtain rfl := Option.some.inj h
    exact hret hw hR d_Mo_work_181
  have J66 : ∀ (ws : va_W) (H : Heap) (locs : List Loc) (ls : Array Slot) (s : MS) (v3 : Int32) (v4 : Int32), ct_Wd g A sv ws H locs → ms_Rel g ws0 ws s → lv_has ls 5 [(0, .ref (g.2.1 35)), (1, .int a1), (2, .int a2), (3, .int v3), (4, .int v4)] → bk_Mo_work_66 a1 a2 s v3 v4 = some res → W p l e rm_Mo_work sv m args below meth c H locs 0 0 Q (F0 m 66 ls []) := by
    intro ws H locs ls s v3 v4 hw hR hl h
    unfold bk_Mo_work_66 at h
    refine lv_aload_n hx hb d_Mo_work_66 rfl (lv_at hl 0 rfl) ?_
    refine lv_iload hx hb d_Mo_work_67 (lv_at hl 4 rfl) ?_
    refine lv_iload_n hx hb d_Mo_work_69 rfl (lv_at hl 3 rfl) ?_
    refine lv_iconst (v := 1) hx hb d_Mo_work_70 (by decide) ?_
    refine lv_isub hx hb d_Mo_work_71 ?_
    refine lv_iload_n hx hb d_Mo_work_72 rfl (lv_at hl 2 rfl) ?_
    refine lv_isub hx hb d_Mo_work_73 ?_
    refine lv_iload_n hx hb d_Mo_work_74 rfl (lv_at hl 3 rfl) ?_
    refine lv_iconst (v := 2) hx hb d_Mo_work_75 (by decide) ?_
    refine lv_isub hx hb d_Mo_work_76 ?_
    obtain ⟨s8, ho, h⟩ := ct_ob_some h
    refine ct_callVv C0 hw hl.1 (q0 := 35) (hR.1 35 (by decide) (by decide)) rfl (ct_giV wd_935 wd_937 sel_Mo_way wd_7 wd_938) (fun sz => s_Mo_way l g ws sz hR.rf ho) (nA := 3) (rm := rm_Mo_way) (by decide +kernel) rfl ⟨rfl, rfl⟩ (by decide) (by decide) (As := [.int v4, .int ((v3 - 1) - a2), .int (v3 - 2)]) (rest := []) rfl (Nat.le_of_ble_eq_true rfl) d_Mo_work_77 (fun ws1 H locs hw hp => ?_)
    have hR := hR.trans hp
    clear hp
    generalize ws1 = ws at hw hR
    refine lv_aload_n hx hb d_Mo_work_80 rfl (lv_at hl 0 rfl) ?_
    refine lv_aload_n hx hb d_Mo_work_81 rfl (lv_at hl 0 rfl) ?_
    refine gf_Mo_32 C0 hw hR d_Mo_work_82 ?_
    refine lv_iconst (v := 2) hx hb d_Mo_work_85 (by decide) ?_
    obtain ⟨hg86, h⟩ := ct_gd_some h
    refine ct_ldml0 C0 hw hR (ct_inR_vp hg86) d_Mo_work_86 ?_
    refine lv_aload_n hx hb d_Mo_work_87 rfl (lv_at hl 0 rfl) ?_
    refine gf_Mo_36 C0 hw hR d_Mo_work_88 ?_
    refine lv_iconst (v := 2) hx hb d_Mo_work_91 (by decide) ?_
    obtain ⟨hg92, h⟩ := ct_gd_some h
    refine ct_ldml1 C0 hw hR (ct_inR_vp hg92) d_Mo_work_92 ?_
    obtain ⟨s9, ho, h⟩ := ct_ob_some h
    refine ct_callVv C0 hw hl.1 (q0 := 35) (hR.1 35 (by decide) (by decide)) rfl (ct_giV wd_918 wd_920 sel_Mo_times wd_7 wd_921) (fun sz => s_Mo_times l g ws sz hR.rf ho) (nA := 2) (rm := rm_Mo_times) (by decide +kernel) rfl ⟨rfl, rfl⟩ (by decide) (by decide) (As := [.long (ms_B s8 0 (2 : Int32).toNatClampNeg), .long (ms_B s8 1 (2 : Int32).toNatClampNeg)]) (rest := []) rfl (Nat.le_of_ble_eq_true rfl) d_Mo_work_93 (fun ws1 H locs hw hp => ?_)
    have hR := hR.trans hp
    clear hp
    generalize ws1 = ws at hw hR
    refine lv_iload_n hx hb d_Mo_work_96 rfl (lv_at hl 1 rfl) ?_
    refine lv_iconst (v := 3) hx hb d_Mo_work_97 (by decide) ?_
    refine lv_icmp_eq hx hb (tgt := 117) d_Mo_work_98 (by decide) (fun hc9 => ?_) (fun hc9 => ?_)
    · rw [if_pos hc9] at h
      refine lv_aload_n hx hb d_Mo_work_117 rfl (lv_at hl 0 rfl) ?_
      refine gf_Mo_97 C0 hw hR d_Mo_work_118 ?_
      refine lv_if_ne hx hb (tgt := 135) d_Mo_work_121 (by decide) (fun hc9 => ?_) (fun hc9 => ?_)
      · rw [if_pos hc9] at h
        exact J135 ws H locs ls s9 hw hR (lv_sub hl [0, 2] rfl) h
      · rw [if_neg (fun q => q hc9)] at h
        refine lv_aload_n hx hb d_Mo_work_124 rfl (lv_at hl 0 rfl) ?_
        refine gf_Mo_114 C0 hw hR d_Mo_work_125 ?_
        refine lv_lconst (v := 0) hx hb d_Mo_work_128 (by decide) ?_
        refine W.lcmp hx hb d_Mo_work_129 ?_
        refine lv_if_ne hx hb (tgt := 135) d_Mo_work_130 (by decide) (fun hc9 => ?_) (fun hc9 => ?_)
        · rw [if_pos hc9] at h
          exact J135 ws H locs ls s9 hw hR (lv_sub hl [0, 2] rfl) h
        · rw [if_neg (fun q => q hc9)] at h
          refine lv_iconst (v := 2) hx hb d_Mo_work_133 (by decide) ?_
          obtain rfl := Option.some.inj h
          exact hret hw hR d_Mo_work_134
    · rw [if_neg hc9] at h
      refine lv_aload_n hx hb d_Mo_work_101 rfl (lv_at hl 0 rfl) ?_
      refine lv_aload_n hx hb d_Mo_work_102 rfl (lv_at hl 0 rfl) ?_
      refine lv_iload_n hx hb d_Mo_work_103 rfl (lv_at hl 2 rfl) ?_
      obtain ⟨x10, ho, h⟩ := ct_ob_some h
      refine ct_callVi C0 hw hl.1 (q0 := 35) (hR.1 35 (by decide) (by decide)) rfl (ct_giV wd_939 wd_941 sel_Mo_latestOf wd_7 wd_942) (fun sz => s_Mo_latestOf l g ws sz hR.rf ho) (nA := 1) (rm := rm_Mo_latestOf) (by decide +kernel) rfl ⟨rfl, rfl⟩ (by decide) (by decide) (As := [.int a2]) (rest := [.ref (g.2.1 35)]) rfl (Nat.le_of_ble_eq_true rfl) d_Mo_work_104 (fun ws1 H locs hw hp => ?_)
      rw [hp] at hw
      clear hp
      refine lv_i2l hx hb d_Mo_work_107 rfl ?_
      refine lv_lconst (v := 1) hx hb d_Mo_work_108 (by decide) ?_
      obtain ⟨s11, ho, h⟩ := ct_ob_some h
      refine ct_callVv C0 hw hl.1 (q0 := 35) (hR.1 35 (by decide) (by decide)) rfl (ct_giV wd_918 wd_920 sel_Mo_times wd_7 wd_921) (fun sz => s_Mo_times l g ws sz hR.rf ho) (nA := 2) (rm := rm_Mo_times) (by decide +kernel) rfl ⟨rfl, rfl⟩ (by decide) (by decide) (As := [.long x10.toInt64, .long 1]) (rest := []) rfl (Nat.le_of_ble_eq_true rfl) d_Mo_work_109 (fun ws1 H locs hw hp => ?_)
      have hR := hR.trans hp
      clear hp
      generalize ws1 = ws at hw hR
      refine lv_aload_n hx hb d_Mo_work_112 rfl (lv_at hl 0 rfl) ?_
      obtain ⟨x12, ho, h⟩ := ct_ob_some h
      refine ct_callVi C0 hw hl.1 (q0 := 35) (hR.1 35 (by decide) (by decide)) rfl (ct_giV wd_927 wd_929 sel_Mo_answer wd_7 wd_930) (fun sz => s_Mo_answer l g ws sz hR.rf ho) (nA := 0) (rm := rm_Mo_answer) (by decide +kernel) rfl ⟨rfl, rfl⟩ (by decide) (by decide) (As := []) (rest := []) rfl (Nat.le_of_ble_eq_true rfl) d_Mo_work_113 (fun ws1 H locs hw hp => ?_)
      rw [hp] at hw
      clear hp
      obtain rfl := Option.some.inj h
      exact hret hw hR d_Mo_work_116
  have J35 : ∀ (ws : va_W) (H : Heap) (locs : List Loc) (ls : Array Slot) (s : MS) (t0 : Int32) (v3 : Int32), ct_Wd g A sv ws H locs → ms_Rel g ws0 ws s → lv_has ls 5 [(0, .ref (g.2.1 35)), (1, .int a1), (2, .int a2), (3, .int v3)] → bk_Mo_work_35 a1 a2 s t0 v3 = some res → W p l e rm_Mo_work sv m args below meth c H locs 0 0 Q (F0 m 35 ls [.int t0]) := by
    intro ws H locs ls s t0 v3 hw hR hl h
    unfold bk_Mo_work_35 at h
    refine lv_istore (lv' := [(4, .int t0), (0, .ref (g.2.1 35)), (1, .int a1), (2, .int a2), (3, .int v3)]) hx hb d_Mo_work_35 hl (by decide) rfl (fun ls hl => ?_)
    refine lv_aload_n hx hb d_Mo_work_37 rfl (lv_at hl 1 rfl) ?_
    refine lv_iload hx hb d_Mo_work_38 (lv_at hl 0 rfl) ?_
    refine lv_iload_n hx hb d_Mo_work_40 rfl (lv_at hl 4 rfl) ?_
    refine lv_iconst (v := 1) hx hb d_Mo_work_41 (by decide) ?_
    refine lv_isub hx hb d_Mo_work_42 ?_
    refine lv_iload_n hx hb d_Mo_work_43 rfl (lv_at hl 3 rfl) ?_
    refine lv_isub hx hb d_Mo_work_44 ?_
    refine lv_iload_n hx hb d_Mo_work_45 rfl (lv_at hl 4 rfl) ?_
    refine lv_iconst (v := 2) hx hb d_Mo_work_46 (by decide) ?_
    refine lv_isub hx hb d_Mo_work_47 ?_
    obtain ⟨x13, s14, ho, h⟩ := ct_ob2_some h
    refine ct_callVi C0 hw hl.1 (q0 := 35) (hR.1 35 (by decide) (by decide)) rfl (ct_giV wd_931 wd_933 sel_Mo_areDefined wd_7 wd_934) (fun sz => s_Mo_areDefined l g ws sz hR.rf ho) (nA := 3) (rm := rm_Mo_areDefined) (by decide +kernel) rfl ⟨rfl, rfl⟩ (by decide) (by decide) (As := [.int t0, .int ((v3 - 1) - a2), .int (v3 - 2)]) (rest := []) rfl (Nat.le_of_ble_eq_true rfl) d_Mo_work_48 (fun ws1 H locs hw hp => ?_)
    have hR := hR.trans hp
    clear hp
    generalize ws1 = ws at hw hR
    refine lv_if_ne hx hb (tgt := 56) d_Mo_work_51 (by decide) (fun hc9 => ?_) (fun hc9 => ?_)
    · rw [if_pos hc9] at h
      refine lv_iload_n hx hb d_Mo_work_56 rfl (lv_at hl 2 rfl) ?_
      refine lv_iconst (v := 3) hx hb d_Mo_work_57 (by decide) ?_
      refine lv_icmp_ne hx hb (tgt := 66) d_Mo_work_58 (by decide) (fun hc9 => ?_) (fun hc9 => ?_)
      · rw [if_pos hc9] at h
        exact J66 ws H locs ls s14 v3 t0 hw hR (lv_sub hl [1, 2, 3, 4, 0] rfl) h
      · rw [if_neg (fun q => q hc9)] at h
        refine lv_aload_n hx hb d_Mo_work_61 rfl (lv_at hl 1 rfl) ?_
        refine lv_iload_n hx hb d_Mo_work_62 rfl (lv_at hl 3 rfl) ?_
        obtain ⟨s15, ho, h⟩ := ct_ob_some h
        refine ct_callVv C0 hw hl.1 (q0 := 35) (hR.1 35 (by decide) (by decide)) rfl (ct_giV wd_914 wd_916 sel_Mo_expect wd_7 wd_917) (fun sz => s_Mo_expect l g ws sz hR.rf ho) (nA := 1) (rm := rm_Mo_expect) (by decide +kernel) rfl ⟨rfl, rfl⟩ (by decide) (by decide) (As := [.int a2]) (rest := []) rfl (Nat.le_of_ble_eq_true rfl) d_Mo_work_63 (fun ws1 H locs hw hp => ?_)
        have hR := hR.trans hp
        clear hp
        generalize ws1 = ws at hw hR
        exact J66 ws H locs ls s15 v3 t0 hw hR (lv_sub hl [1, 2, 3, 4, 0] rfl) h
    · rw [if_neg (fun q => q hc9)] at h
      refine lv_iconst (v := 2) hx hb d_Mo_work_54 (by decide) ?_
      obtain rfl := Option.some.inj h
      exact hret hw hR d_Mo_work_55
  unfold fn_Mo_work at h
  obtain ⟨ws, hwe⟩ : ∃ z : va_W, z = ws0 := ⟨_, rfl⟩
  rw [← hwe] at hw
  have hR : ms_Rel g ws0 ws s := by rw [hwe]; exact hR
  clear hwe
  refine lv_aload_n hx hb d_Mo_work_0 rfl (lv_at hl 0 rfl) ?_
  obtain ⟨x16, ho, h⟩ := ct_ob_some h
  refine ct_callVi C0 hw hl.1 (q0 := 35) (hR.1 35 (by decide) (by decide)) rfl (ct_giV wd_846 wd_848 sel_Mo_left wd_7 wd_849) (fun sz => s_Mo_left l g ws sz hR.rf ho) (nA := 0) (rm := rm_Mo_left) (by decide +kernel) rfl ⟨rfl, rfl⟩ (by decide) (by decide) (As := []) (rest := []) rfl (Nat.le_of_ble_eq_true rfl) d_Mo_work_1 (fun ws1 H locs hw hp => ?_)
  rw [hp] at hw
  clear hp
  refine lv_istore_n (lv' := [(3, .int x16), (0, .ref (g.2.1 35)), (1, .int a1), (2, .int a2)]) hx hb d_Mo_work_4 rfl hl (by decide) rfl (fun ls hl => ?_)
  refine lv_aload_n hx hb d_Mo_work_5 rfl (lv_at hl 1 rfl) ?_
  refine lv_iconst (v := 0) hx hb d_Mo_work_6 (by decide) ?_
  refine pf_Mo_97 C0 hw hR (by decide) d_Mo_work_7 (fun ws H locs hw hR => ?_)
  obtain ⟨s17, es9, h⟩ := ct_nm_ex h
  rw [← es9] at hR
  clear es9
  refine lv_iload_n hx hb d_Mo_work_10 rfl (lv_at hl 2 rfl) ?_
  refine lv_iconst (v := 2) hx hb d_Mo_work_11 (by decide) ?_
  refine lv_icmp_ne hx hb (tgt := 25) d_Mo_work_12 (by decide) (fun hc9 => ?_) (fun hc9 => ?_)
  · rw [if_pos hc9] at h
    refine lv_iload_n hx hb d_Mo_work_25 rfl (lv_at hl 2 rfl) ?_
    refine lv_iconst (v := 1) hx hb d_Mo_work_26 (by decide) ?_
    refine lv_icmp_ne hx hb (tgt := 34) d_Mo_work_27 (by decide) (fun hc9 => ?_) (fun hc9 => ?_)
    · rw [if_pos hc9] at h
      refine lv_iconst (v := 0) hx hb d_Mo_work_34 (by decide) ?_
      exact J35 ws H locs ls s17 0 x16 hw hR (lv_sub hl [1, 2, 3, 0] rfl) h
    · rw [if_neg (fun q => q hc9)] at h
      refine lv_iconst (v := 1) hx hb d_Mo_work_30 (by decide) ?_
      refine lv_goto hx hb (tgt := 35) d_Mo_work_31 (by decide) ?_
      exact J35 ws H locs ls s17 1 x16 hw hR (lv_sub hl [1, 2, 3, 0] rfl) h
  · rw [if_neg (fun q => q hc9)] at h
    refine lv_aload_n hx hb d_Mo_work_15 rfl (lv_at hl 1 rfl) ?_
    refine lv_iload_n hx hb d_Mo_work_16 rfl (lv_at hl 3 rfl) ?_
    obtain ⟨s18, ho, h⟩ := ct_ob_some h
    refine ct_callVv C0 hw hl.1 (q0 := 35) (hR.1 35 (by decide) (by decide)) rfl (ct_giV wd_914 wd_916 sel_Mo_expect wd_7 wd_917) (fun sz => s_Mo_expect l g ws sz hR.rf ho) (nA := 1) (rm := rm_Mo_expect) (by decide +kernel) rfl ⟨rfl, rfl⟩ (by decide) (by decide) (As := [.int a2]) (rest := []) rfl (Nat.le_of_ble_eq_true rfl) d_Mo_work_17 (fun ws1 H locs hw hp => ?_)
    have hR := hR.trans hp
    clear hp
    generalize ws1 = ws at hw hR
    refine lv_aload_n hx hb d_Mo_work_20 rfl (lv_at hl 1 rfl) ?_
    obtain ⟨x19, ho, h⟩ := ct_ob_some h
    refine ct_callVi C0 hw hl.1 (q0 := 35) (hR.1 35 (by decide) (by decide)) rfl (ct_giV wd_927 wd_929 sel_Mo_answer wd_7 wd_930) (fun sz => s_Mo_answer l g ws sz hR.rf ho) (nA := 0) (rm := rm_Mo_answer) (by decide +kernel) rfl ⟨rfl, rfl⟩ (by decide) (by decide) (As := []) (rest := []) rfl (Nat.le_of_ble_eq_true rfl) d_Mo_work_21 (fun ws1 H locs hw hp => ?_)
    rw [hp] at hw
    clear hp
    obtain rfl := Option.some.inj h
    exact hret hw hR d_Mo_work_24

