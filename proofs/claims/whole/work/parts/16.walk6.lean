theorem d_Mo_pay_0 : decode c_Mo_pay 0 = .ok (.aload_n 0, 1) := by decide +kernel
theorem d_Mo_pay_1 : decode c_Mo_pay 1 = .ok (.iload_n 1, 1) := by decide +kernel
theorem d_Mo_pay_2 : decode c_Mo_pay 2 = .ok (.iload_n 2, 1) := by decide +kernel
theorem d_Mo_pay_3 : decode c_Mo_pay 3 = .ok (.iload_n 3, 1) := by decide +kernel
theorem d_Mo_pay_4 : decode c_Mo_pay 4 = .ok (.iload 4, 2) := by decide +kernel
theorem d_Mo_pay_6 : decode c_Mo_pay 6 = .ok (.iconst 1, 1) := by decide +kernel
theorem d_Mo_pay_7 : decode c_Mo_pay 7 = .ok (.invokevirtual 69, 3) := by decide +kernel
theorem d_Mo_pay_10 : decode c_Mo_pay 10 = .ok (.ireturn, 1) := by decide +kernel
set_option maxHeartbeats 4000000 in
set_option maxRecDepth 100000 in
theorem s_Mo_pay (l : Launch) (g : Gx) (ws0 : va_W) (sz : Nat) {s : MS} {a1 : Int32} {a2 : Int32} {a3 : Int32} {a4 : Int32} {res : (Int32 × MS)} (hR : ms_Rel g ws0 ws0 s) (h : fn_Mo_pay s a1 a2 a3 a4 = some res) : ct_MI l y_Mo_pay c_Mo_pay 5 (some .int) rm_Mo_pay g ws0 sz [.ref (g.2.1 35), .int a1, .int a2, .int a3, .int a4] res.1 (fun u => ms_Rel g ws0 u res.2) := by
  refine ct_starti (by decide +kernel) (Nat.le_of_ble_eq_true rfl) (fun p e sv m args below meth c ls Q A H locs C0 hret hl hw => ?_)
  have hx := C0.1
  have hb := C0.2.1
  have hown := C0.2.2.2.1
  have hts := C0.2.2.2.2.1
  have hl : lv_has ls 5 [(0, .ref (g.2.1 35)), (1, .int a1), (2, .int a2), (3, .int a3), (4, .int a4)] := hl
  unfold fn_Mo_pay at h
  obtain ⟨ws, hwe⟩ : ∃ z : va_W, z = ws0 := ⟨_, rfl⟩
  rw [← hwe] at hw
  have hR : ms_Rel g ws0 ws s := by rw [hwe]; exact hR
  clear hwe
  refine lv_aload_n hx hb d_Mo_pay_0 rfl (lv_at hl 0 rfl) ?_
  refine lv_iload_n hx hb d_Mo_pay_1 rfl (lv_at hl 1 rfl) ?_
  refine lv_iload_n hx hb d_Mo_pay_2 rfl (lv_at hl 2 rfl) ?_
  refine lv_iload_n hx hb d_Mo_pay_3 rfl (lv_at hl 3 rfl) ?_
  refine lv_iload hx hb d_Mo_pay_4 (lv_at hl 4 rfl) ?_
  refine lv_iconst (v := 1) hx hb d_Mo_pay_6 (by decide) ?_
  obtain ⟨x1, s2, ho, h⟩ := ct_ob2_some h
  refine ct_callVi C0 hw hl.1 (q0 := 35) (hR.1 35 (by decide) (by decide)) rfl (ct_giV wd_798 wd_800 sel_Mo_enter wd_7 wd_801) (fun sz => s_Mo_enter l g ws sz hR.rf ho) (nA := 5) (rm := rm_Mo_enter) (by decide +kernel) rfl ⟨rfl, rfl⟩ (by decide) (by decide) (As := [.int a1, .int a2, .int a3, .int a4, .int 1]) (rest := []) rfl (Nat.le_of_ble_eq_true rfl) d_Mo_pay_7 (fun ws1 H locs hw hp => ?_)
  have hR := hR.trans hp
  clear hp
  generalize ws1 = ws at hw hR
  obtain rfl := Option.some.inj h
  exact hret hw hR d_Mo_pay_10

theorem d_Mo_estimate_0 : decode c_Mo_estimate 0 = .ok (.aload_n 0, 1) := by decide +kernel
theorem d_Mo_estimate_1 : decode c_Mo_estimate 1 = .ok (.iload_n 1, 1) := by decide +kernel
theorem d_Mo_estimate_2 : decode c_Mo_estimate 2 = .ok (.iload_n 2, 1) := by decide +kernel
theorem d_Mo_estimate_3 : decode c_Mo_estimate 3 = .ok (.iload_n 3, 1) := by decide +kernel
theorem d_Mo_estimate_4 : decode c_Mo_estimate 4 = .ok (.iload 4, 2) := by decide +kernel
theorem d_Mo_estimate_6 : decode c_Mo_estimate 6 = .ok (.iconst 0, 1) := by decide +kernel
theorem d_Mo_estimate_7 : decode c_Mo_estimate 7 = .ok (.invokevirtual 69, 3) := by decide +kernel
theorem d_Mo_estimate_10 : decode c_Mo_estimate 10 = .ok (.ireturn, 1) := by decide +kernel
set_option maxHeartbeats 4000000 in
set_option maxRecDepth 100000 in
theorem s_Mo_estimate (l : Launch) (g : Gx) (ws0 : va_W) (sz : Nat) {s : MS} {a1 : Int32} {a2 : Int32} {a3 : Int32} {a4 : Int32} {res : (Int32 × MS)} (hR : ms_Rel g ws0 ws0 s) (h : fn_Mo_estimate s a1 a2 a3 a4 = some res) : ct_MI l y_Mo_estimate c_Mo_estimate 5 (some .int) rm_Mo_estimate g ws0 sz [.ref (g.2.1 35), .int a1, .int a2, .int a3, .int a4] res.1 (fun u => ms_Rel g ws0 u res.2) := by
  refine ct_starti (by decide +kernel) (Nat.le_of_ble_eq_true rfl) (fun p e sv m args below meth c ls Q A H locs C0 hret hl hw => ?_)
  have hx := C0.1
  have hb := C0.2.1
  have hown := C0.2.2.2.1
  have hts := C0.2.2.2.2.1
  have hl : lv_has ls 5 [(0, .ref (g.2.1 35)), (1, .int a1), (2, .int a2), (3, .int a3), (4, .int a4)] := hl
  unfold fn_Mo_estimate at h
  obtain ⟨ws, hwe⟩ : ∃ z : va_W, z = ws0 := ⟨_, rfl⟩
  rw [← hwe] at hw
  have hR : ms_Rel g ws0 ws s := by rw [hwe]; exact hR
  clear hwe
  refine lv_aload_n hx hb d_Mo_estimate_0 rfl (lv_at hl 0 rfl) ?_
  refine lv_iload_n hx hb d_Mo_estimate_1 rfl (lv_at hl 1 rfl) ?_
  refine lv_iload_n hx hb d_Mo_estimate_2 rfl (lv_at hl 2 rfl) ?_
  refine lv_iload_n hx hb d_Mo_estimate_3 rfl (lv_at hl 3 rfl) ?_
  refine lv_iload hx hb d_Mo_estimate_4 (lv_at hl 4 rfl) ?_
  refine lv_iconst (v := 0) hx hb d_Mo_estimate_6 (by decide) ?_
  obtain ⟨x1, s2, ho, h⟩ := ct_ob2_some h
  refine ct_callVi C0 hw hl.1 (q0 := 35) (hR.1 35 (by decide) (by decide)) rfl (ct_giV wd_798 wd_800 sel_Mo_enter wd_7 wd_801) (fun sz => s_Mo_enter l g ws sz hR.rf ho) (nA := 5) (rm := rm_Mo_enter) (by decide +kernel) rfl ⟨rfl, rfl⟩ (by decide) (by decide) (As := [.int a1, .int a2, .int a3, .int a4, .int 0]) (rest := []) rfl (Nat.le_of_ble_eq_true rfl) d_Mo_estimate_7 (fun ws1 H locs hw hp => ?_)
  have hR := hR.trans hp
  clear hp
  generalize ws1 = ws at hw hR
  obtain rfl := Option.some.inj h
  exact hret hw hR d_Mo_estimate_10

theorem d_Mo_noEntry_0 : decode c_Mo_noEntry 0 = .ok (.iload_n 1, 1) := by decide +kernel
theorem d_Mo_noEntry_1 : decode c_Mo_noEntry 1 = .ok (.ifCond .lt 11, 3) := by decide +kernel
theorem d_Mo_noEntry_4 : decode c_Mo_noEntry 4 = .ok (.iload_n 1, 1) := by decide +kernel
theorem d_Mo_noEntry_5 : decode c_Mo_noEntry 5 = .ok (.aload_n 0, 1) := by decide +kernel
theorem d_Mo_noEntry_6 : decode c_Mo_noEntry 6 = .ok (.getfield 66, 3) := by decide +kernel
theorem d_Mo_noEntry_9 : decode c_Mo_noEntry 9 = .ok (.if_icmp .lt 7, 3) := by decide +kernel
theorem d_Mo_noEntry_12 : decode c_Mo_noEntry 12 = .ok (.iconst 1, 1) := by decide +kernel
theorem d_Mo_noEntry_13 : decode c_Mo_noEntry 13 = .ok (.goto 4, 3) := by decide +kernel
theorem d_Mo_noEntry_16 : decode c_Mo_noEntry 16 = .ok (.iconst 0, 1) := by decide +kernel
theorem d_Mo_noEntry_17 : decode c_Mo_noEntry 17 = .ok (.ireturn, 1) := by decide +kernel
set_option maxHeartbeats 4000000 in
set_option maxRecDepth 100000 in
theorem s_Mo_noEntry (l : Launch) (g : Gx) (ws0 : va_W) (sz : Nat) {s : MS} {a1 : Int32} {res : Int32} (hR : ms_Rel g ws0 ws0 s) (h : fn_Mo_noEntry s a1 = some res) : ct_MI l y_Mo_noEntry c_Mo_noEntry 2 (some .boolean) rm_Mo_noEntry g ws0 sz [.ref (g.2.1 35), .int a1] res (fun u => u = ws0) := by
  refine ct_startz (by decide +kernel) (Nat.le_of_ble_eq_true rfl) (fun p e sv m args below meth c ls Q A H locs C0 hret hl hw => ?_)
  have hx := C0.1
  have hb := C0.2.1
  have hown := C0.2.2.2.1
  have hts := C0.2.2.2.2.1
  have hl : lv_has ls 2 [(0, .ref (g.2.1 35)), (1, .int a1)] := hl
  unfold fn_Mo_noEntry at h
  refine lv_iload_n hx hb d_Mo_noEntry_0 rfl (lv_at hl 1 rfl) ?_
  refine lv_if_lt hx hb (tgt := 12) d_Mo_noEntry_1 (by decide) (fun hc9 => ?_) (fun hc9 => ?_)
  · rw [if_pos hc9] at h
    refine lv_iconst (v := 1) hx hb d_Mo_noEntry_12 (by decide) ?_
    refine lv_goto hx hb (tgt := 17) d_Mo_noEntry_13 (by decide) ?_
    have hz : ct_isB 1 = true := by decide
    obtain rfl := Option.some.inj h
    exact hret hz hw rfl d_Mo_noEntry_17
  · rw [if_neg hc9] at h
    refine lv_iload_n hx hb d_Mo_noEntry_4 rfl (lv_at hl 1 rfl) ?_
    refine lv_aload_n hx hb d_Mo_noEntry_5 rfl (lv_at hl 0 rfl) ?_
    refine gf_Mo_66 C0 hw hR d_Mo_noEntry_6 ?_
    refine lv_icmp_lt hx hb (tgt := 16) d_Mo_noEntry_9 (by decide) (fun hc9 => ?_) (fun hc9 => ?_)
    · rw [if_pos hc9] at h
      refine lv_iconst (v := 0) hx hb d_Mo_noEntry_16 (by decide) ?_
      have hz : ct_isB 0 = true := by decide
      obtain rfl := Option.some.inj h
      exact hret hz hw rfl d_Mo_noEntry_17
    · rw [if_neg hc9] at h
      refine lv_iconst (v := 1) hx hb d_Mo_noEntry_12 (by decide) ?_
      refine lv_goto hx hb (tgt := 17) d_Mo_noEntry_13 (by decide) ?_
      have hz : ct_isB 1 = true := by decide
      obtain rfl := Option.some.inj h
      exact hret hz hw rfl d_Mo_noEntry_17

theorem d_Mo_strike_0 : decode c_Mo_strike 0 = .ok (.aload_n 0, 1) := by decide +kernel
theorem d_Mo_strike_1 : decode c_Mo_strike 1 = .ok (.aload_n 0, 1) := by decide +kernel
theorem d_Mo_strike_2 : decode c_Mo_strike 2 = .ok (.iload_n 1, 1) := by decide +kernel
theorem d_Mo_strike_3 : decode c_Mo_strike 3 = .ok (.invokevirtual 73, 3) := by decide +kernel
theorem d_Mo_strike_6 : decode c_Mo_strike 6 = .ok (.ifCond .eq 7, 3) := by decide +kernel
theorem d_Mo_strike_9 : decode c_Mo_strike 9 = .ok (.iconst 1, 1) := by decide +kernel
theorem d_Mo_strike_10 : decode c_Mo_strike 10 = .ok (.goto 17, 3) := by decide +kernel
theorem d_Mo_strike_13 : decode c_Mo_strike 13 = .ok (.aload_n 0, 1) := by decide +kernel
theorem d_Mo_strike_14 : decode c_Mo_strike 14 = .ok (.getfield 26, 3) := by decide +kernel
theorem d_Mo_strike_17 : decode c_Mo_strike 17 = .ok (.iload_n 1, 1) := by decide +kernel
theorem d_Mo_strike_18 : decode c_Mo_strike 18 = .ok (.baload, 1) := by decide +kernel
theorem d_Mo_strike_19 : decode c_Mo_strike 19 = .ok (.ifCond .eq 7, 3) := by decide +kernel
theorem d_Mo_strike_22 : decode c_Mo_strike 22 = .ok (.iconst 2, 1) := by decide +kernel
theorem d_Mo_strike_23 : decode c_Mo_strike 23 = .ok (.goto 4, 3) := by decide +kernel
theorem d_Mo_strike_26 : decode c_Mo_strike 26 = .ok (.iconst 0, 1) := by decide +kernel
theorem d_Mo_strike_27 : decode c_Mo_strike 27 = .ok (.putfield 55, 3) := by decide +kernel
theorem d_Mo_strike_30 : decode c_Mo_strike 30 = .ok (.aload_n 0, 1) := by decide +kernel
theorem d_Mo_strike_31 : decode c_Mo_strike 31 = .ok (.getfield 55, 3) := by decide +kernel
theorem d_Mo_strike_34 : decode c_Mo_strike 34 = .ok (.ifCond .eq 5, 3) := by decide +kernel
theorem d_Mo_strike_37 : decode c_Mo_strike 37 = .ok (.iconst 0, 1) := by decide +kernel
theorem d_Mo_strike_38 : decode c_Mo_strike 38 = .ok (.ireturn, 1) := by decide +kernel
theorem d_Mo_strike_39 : decode c_Mo_strike 39 = .ok (.aload_n 0, 1) := by decide +kernel
theorem d_Mo_strike_40 : decode c_Mo_strike 40 = .ok (.getfield 26, 3) := by decide +kernel
theorem d_Mo_strike_43 : decode c_Mo_strike 43 = .ok (.iload_n 1, 1) := by decide +kernel
theorem d_Mo_strike_44 : decode c_Mo_strike 44 = .ok (.iconst 1, 1) := by decide +kernel
theorem d_Mo_strike_45 : decode c_Mo_strike 45 = .ok (.bastore, 1) := by decide +kernel
theorem d_Mo_strike_46 : decode c_Mo_strike 46 = .ok (.aload_n 0, 1) := by decide +kernel
theorem d_Mo_strike_47 : decode c_Mo_strike 47 = .ok (.getfield 19, 3) := by decide +kernel
theorem d_Mo_strike_50 : decode c_Mo_strike 50 = .ok (.iload_n 1, 1) := by decide +kernel
theorem d_Mo_strike_51 : decode c_Mo_strike 51 = .ok (.iaload, 1) := by decide +kernel
theorem d_Mo_strike_52 : decode c_Mo_strike 52 = .ok (.ireturn, 1) := by decide +kernel
set_option maxHeartbeats 4000000 in
set_option maxRecDepth 100000 in
theorem s_Mo_strike (l : Launch) (g : Gx) (ws0 : va_W) (sz : Nat) {s : MS} {a1 : Int32} {res : (Int32 × MS)} (hR : ms_Rel g ws0 ws0 s) (h : fn_Mo_strike s a1 = some res) : ct_MI l y_Mo_strike c_Mo_strike 2 (some .int) rm_Mo_strike g ws0 sz [.ref (g.2.1 35), .int a1] res.1 (fun u => ms_Rel g ws0 u res.2) := by
  refine ct_starti (by decide +kernel) (Nat.le_of_ble_eq_true rfl) (fun p e sv m args below meth c ls Q A H locs C0 hret hl hw => ?_)
  have hx := C0.1
  have hb := C0.2.1
  have hown := C0.2.2.2.1
  have hts := C0.2.2.2.2.1
  have hl : lv_has ls 2 [(0, .ref (g.2.1 35)), (1, .int a1)] := hl
  have J27 : ∀ (ws : va_W) (H : Heap) (locs : List Loc) (ls : Array Slot) (s : MS) (t1 : Int32), ct_Wd g A sv ws H locs → ms_Rel g ws0 ws s → lv_has ls 2 [(0, .ref (g.2.1 35)), (1, .int a1)] → bk_Mo_strike_27 a1 s t1 = some res → W p l e rm_Mo_strike sv m args below meth c H locs 0 0 Q (F0 m 27 ls [.int t1, .ref (g.2.1 35)]) := by
    intro ws H locs ls s t1 hw hR hl h
    unfold bk_Mo_strike_27 at h
    refine pf_Mo_55 C0 hw hR d_Mo_strike_27 (fun ws H locs hw hR => ?_)
    obtain ⟨s1, es9, h⟩ := ct_nm_ex h
    rw [← es9] at hR
    clear es9
    refine lv_aload_n hx hb d_Mo_strike_30 rfl (lv_at hl 0 rfl) ?_
    refine gf_Mo_55 C0 hw hR d_Mo_strike_31 ?_
    refine lv_if_eq hx hb (tgt := 39) d_Mo_strike_34 (by decide) (fun hc9 => ?_) (fun hc9 => ?_)
    · rw [if_pos hc9] at h
      refine lv_aload_n hx hb d_Mo_strike_39 rfl (lv_at hl 0 rfl) ?_
      refine gf_Mo_26 C0 hw hR d_Mo_strike_40 ?_
      refine lv_iload_n hx hb d_Mo_strike_43 rfl (lv_at hl 1 rfl) ?_
      refine lv_iconst (v := 1) hx hb d_Mo_strike_44 (by decide) ?_
      obtain ⟨hg45, h⟩ := ct_gd_some h
      refine ct_stma5 C0 hw hR (ct_inR_vp hg45) d_Mo_strike_45 (fun ws H locs hw hR => ?_)
      obtain ⟨s2, es9, h⟩ := ct_nm_ex h
      rw [← es9] at hR
      clear es9
      refine lv_aload_n hx hb d_Mo_strike_46 rfl (lv_at hl 0 rfl) ?_
      refine gf_Mo_19 C0 hw hR d_Mo_strike_47 ?_
      refine lv_iload_n hx hb d_Mo_strike_50 rfl (lv_at hl 1 rfl) ?_
      obtain ⟨hg51, h⟩ := ct_gd_some h
      refine ct_ldma3 C0 hw hR (ct_inR_vp hg51) d_Mo_strike_51 ?_
      obtain rfl := Option.some.inj h
      exact hret hw hR d_Mo_strike_52
    · rw [if_neg hc9] at h
      refine lv_iconst (v := 0) hx hb d_Mo_strike_37 (by decide) ?_
      obtain rfl := Option.some.inj h
      exact hret hw hR d_Mo_strike_38
  unfold fn_Mo_strike at h
  obtain ⟨ws, hwe⟩ : ∃ z : va_W, z = ws0 := ⟨_, rfl⟩
  rw [← hwe] at hw
  have hR : ms_Rel g ws0 ws s := by rw [hwe]; exact hR
  clear hwe
  refine lv_aload_n hx hb d_Mo_strike_0 rfl (lv_at hl 0 rfl) ?_
  refine lv_aload_n hx hb d_Mo_strike_1 rfl (lv_at hl 0 rfl) ?_
  refine lv_iload_n hx hb d_Mo_strike_2 rfl (lv_at hl 1 rfl) ?_
  obtain ⟨x3, ho, h⟩ := ct_ob_some h
  refine ct_callVi C0 hw hl.1 (q0 := 35) (hR.1 35 (by decide) (by decide)) rfl (ct_giV wd_818 wd_820 sel_Mo_noEntry wd_7 wd_821) (fun sz => s_Mo_noEntry l g ws sz hR.rf ho) (nA := 1) (rm := rm_Mo_noEntry) (by decide +kernel) rfl ⟨rfl, rfl⟩ (by decide) (by decide) (As := [.int a1]) (rest := [.ref (g.2.1 35)]) rfl (Nat.le_of_ble_eq_true rfl) d_Mo_strike_3 (fun ws1 H locs hw hp => ?_)
  rw [hp] at hw
  clear hp
  refine lv_if_eq hx hb (tgt := 13) d_Mo_strike_6 (by decide) (fun hc9 => ?_) (fun hc9 => ?_)
  · rw [if_pos hc9] at h
    refine lv_aload_n hx hb d_Mo_strike_13 rfl (lv_at hl 0 rfl) ?_
    refine gf_Mo_26 C0 hw hR d_Mo_strike_14 ?_
    refine lv_iload_n hx hb d_Mo_strike_17 rfl (lv_at hl 1 rfl) ?_
    obtain ⟨hg18, h⟩ := ct_gd_some h
    refine ct_ldma5 C0 hw hR (ct_inR_vp hg18) d_Mo_strike_18 ?_
    refine lv_if_eq hx hb (tgt := 26) d_Mo_strike_19 (by decide) (fun hc9 => ?_) (fun hc9 => ?_)
    · rw [if_pos hc9] at h
      refine lv_iconst (v := 0) hx hb d_Mo_strike_26 (by decide) ?_
      exact J27 ws H locs ls s 0 hw hR (lv_sub hl [0, 1] rfl) h
    · rw [if_neg hc9] at h
      refine lv_iconst (v := 2) hx hb d_Mo_strike_22 (by decide) ?_
      refine lv_goto hx hb (tgt := 27) d_Mo_strike_23 (by decide) ?_
      exact J27 ws H locs ls s 2 hw hR (lv_sub hl [0, 1] rfl) h
  · rw [if_neg hc9] at h
    refine lv_iconst (v := 1) hx hb d_Mo_strike_9 (by decide) ?_
    refine lv_goto hx hb (tgt := 27) d_Mo_strike_10 (by decide) ?_
    exact J27 ws H locs ls s 1 hw hR (lv_sub hl [0, 1] rfl) h

theorem d_Mo_move_0 : decode c_Mo_move 0 = .ok (.aload_n 0, 1) := by decide +kernel
theorem d_Mo_move_1 : decode c_Mo_move 1 = .ok (.aload_n 0, 1) := by decide +kernel
theorem d_Mo_move_2 : decode c_Mo_move 2 = .ok (.iload_n 1, 1) := by decide +kernel
theorem d_Mo_move_3 : decode c_Mo_move 3 = .ok (.invokevirtual 73, 3) := by decide +kernel
theorem d_Mo_move_6 : decode c_Mo_move 6 = .ok (.ifCond .ne 12, 3) := by decide +kernel
theorem d_Mo_move_9 : decode c_Mo_move 9 = .ok (.aload_n 0, 1) := by decide +kernel
theorem d_Mo_move_10 : decode c_Mo_move 10 = .ok (.iload_n 2, 1) := by decide +kernel
theorem d_Mo_move_11 : decode c_Mo_move 11 = .ok (.iload_n 3, 1) := by decide +kernel
theorem d_Mo_move_12 : decode c_Mo_move 12 = .ok (.invokevirtual 62, 3) := by decide +kernel
theorem d_Mo_move_15 : decode c_Mo_move 15 = .ok (.ifCond .eq 7, 3) := by decide +kernel
theorem d_Mo_move_18 : decode c_Mo_move 18 = .ok (.iconst 1, 1) := by decide +kernel
theorem d_Mo_move_19 : decode c_Mo_move 19 = .ok (.goto 17, 3) := by decide +kernel
theorem d_Mo_move_22 : decode c_Mo_move 22 = .ok (.aload_n 0, 1) := by decide +kernel
theorem d_Mo_move_23 : decode c_Mo_move 23 = .ok (.getfield 26, 3) := by decide +kernel
theorem d_Mo_move_26 : decode c_Mo_move 26 = .ok (.iload_n 1, 1) := by decide +kernel
theorem d_Mo_move_27 : decode c_Mo_move 27 = .ok (.baload, 1) := by decide +kernel
theorem d_Mo_move_28 : decode c_Mo_move 28 = .ok (.ifCond .eq 7, 3) := by decide +kernel
theorem d_Mo_move_31 : decode c_Mo_move 31 = .ok (.iconst 2, 1) := by decide +kernel
theorem d_Mo_move_32 : decode c_Mo_move 32 = .ok (.goto 4, 3) := by decide +kernel
theorem d_Mo_move_35 : decode c_Mo_move 35 = .ok (.iconst 0, 1) := by decide +kernel
theorem d_Mo_move_36 : decode c_Mo_move 36 = .ok (.putfield 55, 3) := by decide +kernel
theorem d_Mo_move_39 : decode c_Mo_move 39 = .ok (.aload_n 0, 1) := by decide +kernel
theorem d_Mo_move_40 : decode c_Mo_move 40 = .ok (.getfield 55, 3) := by decide +kernel
theorem d_Mo_move_43 : decode c_Mo_move 43 = .ok (.ifCond .ne 17, 3) := by decide +kernel
theorem d_Mo_move_46 : decode c_Mo_move 46 = .ok (.aload_n 0, 1) := by decide +kernel
theorem d_Mo_move_47 : decode c_Mo_move 47 = .ok (.getfield 13, 3) := by decide +kernel
theorem d_Mo_move_50 : decode c_Mo_move 50 = .ok (.iload_n 1, 1) := by decide +kernel
theorem d_Mo_move_51 : decode c_Mo_move 51 = .ok (.iload_n 2, 1) := by decide +kernel
theorem d_Mo_move_52 : decode c_Mo_move 52 = .ok (.iastore, 1) := by decide +kernel
theorem d_Mo_move_53 : decode c_Mo_move 53 = .ok (.aload_n 0, 1) := by decide +kernel
theorem d_Mo_move_54 : decode c_Mo_move 54 = .ok (.getfield 16, 3) := by decide +kernel
theorem d_Mo_move_57 : decode c_Mo_move 57 = .ok (.iload_n 1, 1) := by decide +kernel
theorem d_Mo_move_58 : decode c_Mo_move 58 = .ok (.iload_n 3, 1) := by decide +kernel
theorem d_Mo_move_59 : decode c_Mo_move 59 = .ok (.iastore, 1) := by decide +kernel
theorem d_Mo_move_60 : decode c_Mo_move 60 = .ok (.return_, 1) := by decide +kernel
set_option maxHeartbeats 4000000 in
set_option maxRecDepth 100000 in
theorem s_Mo_move (l : Launch) (g : Gx) (ws0 : va_W) (sz : Nat) {s : MS} {a1 : Int32} {a2 : Int32} {a3 : Int32} {res : MS} (hR : ms_Rel g ws0 ws0 s) (h : fn_Mo_move s a1 a2 a3 = some res) : ct_MV l y_Mo_move c_Mo_move 4 none rm_Mo_move g ws0 sz [.ref (g.2.1 35), .int a1, .int a2, .int a3]  (fun u => ms_Rel g ws0 u res) := by
  refine ct_startv (by decide +kernel) (Nat.le_of_ble_eq_true rfl) (fun p e sv m args below meth c ls Q A H locs C0 hret hl hw => ?_)
  have hx := C0.1
  have hb := C0.2.1
  have hown := C0.2.2.2.1
  have hts := C0.2.2.2.2.1
  have hl : lv_has ls 4 [(0, .ref (g.2.1 35)), (1, .int a1), (2, .int a2), (3, .int a3)] := hl
  have J36 : ∀ (ws : va_W) (H : Heap) (locs : List Loc) (ls : Array Slot) (s : MS) (t1 : Int32), ct_Wd g A sv ws H locs → ms_Rel g ws0 ws s → lv_has ls 4 [(0, .ref (g.2.1 35)), (1, .int a1), (2, .int a2), (3, .int a3)] → bk_Mo_move_36 a1 a2 a3 s t1 = some res → W p l e rm_Mo_move sv m args below meth c H locs 0 0 Q (F0 m 36 ls [.int t1, .ref (g.2.1 35)]) := by
    intro ws H locs ls s t1 hw hR hl h
    unfold bk_Mo_move_36 at h
    refine pf_Mo_55 C0 hw hR d_Mo_move_36 (fun ws H locs hw hR => ?_)
    obtain ⟨s1, es9, h⟩ := ct_nm_ex h
    rw [← es9] at hR
    clear es9
    refine lv_aload_n hx hb d_Mo_move_39 rfl (lv_at hl 0 rfl) ?_
    refine gf_Mo_55 C0 hw hR d_Mo_move_40 ?_
    refine lv_if_ne hx hb (tgt := 60) d_Mo_move_43 (by decide) (fun hc9 => ?_) (fun hc9 => ?_)
    · rw [if_pos hc9] at h
      obtain rfl := Option.some.inj h
      exact hret hw hR d_Mo_move_60
    · rw [if_neg (fun q => q hc9)] at h
      refine lv_aload_n hx hb d_Mo_move_46 rfl (lv_at hl 0 rfl) ?_
      refine gf_Mo_13 C0 hw hR d_Mo_move_47 ?_
      refine lv_iload_n hx hb d_Mo_move_50 rfl (lv_at hl 1 rfl) ?_
      refine lv_iload_n hx hb d_Mo_move_51 rfl (lv_at hl 2 rfl) ?_
      obtain ⟨hg52, h⟩ := ct_gd_some h
      refine ct_stma1 C0 hw hR (ct_inR_vp hg52) d_Mo_move_52 (fun ws H locs hw hR => ?_)
      obtain ⟨s2, es9, h⟩ := ct_nm_ex h
      rw [← es9] at hR
      clear es9
      refine lv_aload_n hx hb d_Mo_move_53 rfl (lv_at hl 0 rfl) ?_
      refine gf_Mo_16 C0 hw hR d_Mo_move_54 ?_
      refine lv_iload_n hx hb d_Mo_move_57 rfl (lv_at hl 1 rfl) ?_
      refine lv_iload_n hx hb d_Mo_move_58 rfl (lv_at hl 3 rfl) ?_
      obtain ⟨hg59, h⟩ := ct_gd_some h
      refine ct_stma2 C0 hw hR (ct_inR_vp hg59) d_Mo_move_59 (fun ws H locs hw hR => ?_)
      obtain ⟨s3, es9, h⟩ := ct_nm_ex h
      rw [← es9] at hR
      clear es9
      obtain rfl := Option.some.inj h
      exact hret hw hR d_Mo_move_60
  unfold fn_Mo_move at h
  obtain ⟨ws, hwe⟩ : ∃ z : va_W, z = ws0 := ⟨_, rfl⟩
  rw [← hwe] at hw
  have hR : ms_Rel g ws0 ws s := by rw [hwe]; exact hR
  clear hwe
  refine lv_aload_n hx hb d_Mo_move_0 rfl (lv_at hl 0 rfl) ?_
  refine lv_aload_n hx hb d_Mo_move_1 rfl (lv_at hl 0 rfl) ?_
  refine lv_iload_n hx hb d_Mo_move_2 rfl (lv_at hl 1 rfl) ?_
  obtain ⟨x4, ho, h⟩ := ct_ob_some h
  refine ct_callVi C0 hw hl.1 (q0 := 35) (hR.1 35 (by decide) (by decide)) rfl (ct_giV wd_818 wd_820 sel_Mo_noEntry wd_7 wd_821) (fun sz => s_Mo_noEntry l g ws sz hR.rf ho) (nA := 1) (rm := rm_Mo_noEntry) (by decide +kernel) rfl ⟨rfl, rfl⟩ (by decide) (by decide) (As := [.int a1]) (rest := [.ref (g.2.1 35)]) rfl (Nat.le_of_ble_eq_true rfl) d_Mo_move_3 (fun ws1 H locs hw hp => ?_)
  rw [hp] at hw
  clear hp
  refine lv_if_ne hx hb (tgt := 18) d_Mo_move_6 (by decide) (fun hc9 => ?_) (fun hc9 => ?_)
  · rw [if_pos hc9] at h
    refine lv_iconst (v := 1) hx hb d_Mo_move_18 (by decide) ?_
    refine lv_goto hx hb (tgt := 36) d_Mo_move_19 (by decide) ?_
    exact J36 ws H locs ls s 1 hw hR (lv_sub hl [0, 1, 2, 3] rfl) h
  · rw [if_neg (fun q => q hc9)] at h
    refine lv_aload_n hx hb d_Mo_move_9 rfl (lv_at hl 0 rfl) ?_
    refine lv_iload_n hx hb d_Mo_move_10 rfl (lv_at hl 2 rfl) ?_
    refine lv_iload_n hx hb d_Mo_move_11 rfl (lv_at hl 3 rfl) ?_
    obtain ⟨x5, ho, h⟩ := ct_ob_some h
    refine ct_callVi C0 hw hl.1 (q0 := 35) (hR.1 35 (by decide) (by decide)) rfl (ct_giV wd_806 wd_808 sel_Mo_noMonths wd_7 wd_809) (fun sz => s_Mo_noMonths l g ws sz ho) (nA := 2) (rm := rm_Mo_noMonths) (by decide +kernel) rfl ⟨rfl, rfl⟩ (by decide) (by decide) (As := [.int a2, .int a3]) (rest := [.ref (g.2.1 35)]) rfl (Nat.le_of_ble_eq_true rfl) d_Mo_move_12 (fun ws1 H locs hw hp => ?_)
    rw [hp] at hw
    clear hp
    refine lv_if_eq hx hb (tgt := 22) d_Mo_move_15 (by decide) (fun hc9 => ?_) (fun hc9 => ?_)
    · rw [if_pos hc9] at h
      refine lv_aload_n hx hb d_Mo_move_22 rfl (lv_at hl 0 rfl) ?_
      refine gf_Mo_26 C0 hw hR d_Mo_move_23 ?_
      refine lv_iload_n hx hb d_Mo_move_26 rfl (lv_at hl 1 rfl) ?_
      obtain ⟨hg27, h⟩ := ct_gd_some h
      refine ct_ldma5 C0 hw hR (ct_inR_vp hg27) d_Mo_move_27 ?_
      refine lv_if_eq hx hb (tgt := 35) d_Mo_move_28 (by decide) (fun hc9 => ?_) (fun hc9 => ?_)
      · rw [if_pos hc9] at h
        refine lv_iconst (v := 0) hx hb d_Mo_move_35 (by decide) ?_
        exact J36 ws H locs ls s 0 hw hR (lv_sub hl [0, 1, 2, 3] rfl) h
      · rw [if_neg hc9] at h
        refine lv_iconst (v := 2) hx hb d_Mo_move_31 (by decide) ?_
        refine lv_goto hx hb (tgt := 36) d_Mo_move_32 (by decide) ?_
        exact J36 ws H locs ls s 2 hw hR (lv_sub hl [0, 1, 2, 3] rfl) h
    · rw [if_neg hc9] at h
      refine lv_iconst (v := 1) hx hb d_Mo_move_18 (by decide) ?_
      refine lv_goto hx hb (tgt := 36) d_Mo_move_19 (by decide) ?_
      exact J36 ws H locs ls s 1 hw hR (lv_sub hl [0, 1, 2, 3] rfl) h

theorem d_Mo_premium_0 : decode c_Mo_premium 0 = .ok (.aload_n 0, 1) := by decide +kernel
theorem d_Mo_premium_1 : decode c_Mo_premium 1 = .ok (.aload_n 0, 1) := by decide +kernel
theorem d_Mo_premium_2 : decode c_Mo_premium 2 = .ok (.iload_n 1, 1) := by decide +kernel
theorem d_Mo_premium_3 : decode c_Mo_premium 3 = .ok (.invokevirtual 58, 3) := by decide +kernel
theorem d_Mo_premium_6 : decode c_Mo_premium 6 = .ok (.ifCond .ne 24, 3) := by decide +kernel
theorem d_Mo_premium_9 : decode c_Mo_premium 9 = .ok (.iload_n 2, 1) := by decide +kernel
theorem d_Mo_premium_10 : decode c_Mo_premium 10 = .ok (.ifCond .lt 20, 3) := by decide +kernel
theorem d_Mo_premium_13 : decode c_Mo_premium 13 = .ok (.iload_n 2, 1) := by decide +kernel
theorem d_Mo_premium_14 : decode c_Mo_premium 14 = .ok (.bipush 71, 2) := by decide +kernel
theorem d_Mo_premium_16 : decode c_Mo_premium 16 = .ok (.if_icmp .gt 14, 3) := by decide +kernel
theorem d_Mo_premium_19 : decode c_Mo_premium 19 = .ok (.iload_n 3, 1) := by decide +kernel
theorem d_Mo_premium_20 : decode c_Mo_premium 20 = .ok (.ifCond .lt 10, 3) := by decide +kernel
theorem d_Mo_premium_23 : decode c_Mo_premium 23 = .ok (.iload_n 3, 1) := by decide +kernel
theorem d_Mo_premium_24 : decode c_Mo_premium 24 = .ok (.sipush 9999, 3) := by decide +kernel
theorem d_Mo_premium_27 : decode c_Mo_premium 27 = .ok (.if_icmp .le 7, 3) := by decide +kernel
theorem d_Mo_premium_30 : decode c_Mo_premium 30 = .ok (.iconst 1, 1) := by decide +kernel
theorem d_Mo_premium_31 : decode c_Mo_premium 31 = .ok (.goto 4, 3) := by decide +kernel
theorem d_Mo_premium_34 : decode c_Mo_premium 34 = .ok (.iconst 0, 1) := by decide +kernel
theorem d_Mo_premium_35 : decode c_Mo_premium 35 = .ok (.putfield 55, 3) := by decide +kernel
theorem d_Mo_premium_38 : decode c_Mo_premium 38 = .ok (.aload_n 0, 1) := by decide +kernel
theorem d_Mo_premium_39 : decode c_Mo_premium 39 = .ok (.getfield 55, 3) := by decide +kernel
theorem d_Mo_premium_42 : decode c_Mo_premium 42 = .ok (.ifCond .ne 15, 3) := by decide +kernel
theorem d_Mo_premium_45 : decode c_Mo_premium 45 = .ok (.aload_n 0, 1) := by decide +kernel
theorem d_Mo_premium_46 : decode c_Mo_premium 46 = .ok (.getfield 29, 3) := by decide +kernel
theorem d_Mo_premium_49 : decode c_Mo_premium 49 = .ok (.bipush 72, 2) := by decide +kernel
theorem d_Mo_premium_51 : decode c_Mo_premium 51 = .ok (.iload_n 1, 1) := by decide +kernel
theorem d_Mo_premium_52 : decode c_Mo_premium 52 = .ok (.imul, 1) := by decide +kernel
theorem d_Mo_premium_53 : decode c_Mo_premium 53 = .ok (.iload_n 2, 1) := by decide +kernel
theorem d_Mo_premium_54 : decode c_Mo_premium 54 = .ok (.iadd, 1) := by decide +kernel
theorem d_Mo_premium_55 : decode c_Mo_premium 55 = .ok (.iload_n 3, 1) := by decide +kernel
theorem d_Mo_premium_56 : decode c_Mo_premium 56 = .ok (.iastore, 1) := by decide +kernel
theorem d_Mo_premium_57 : decode c_Mo_premium 57 = .ok (.return_, 1) := by decide +kernel
set_option maxHeartbeats 4000000 in
set_option maxRecDepth 100000 in
theorem s_Mo_premium (l : Launch) (g : Gx) (ws0 : va_W) (sz : Nat) {s : MS} {a1 : Int32} {a2 : Int32} {a3 : Int32} {res : MS} (hR : ms_Rel g ws0 ws0 s) (h : fn_Mo_premium s a1 a2 a3 = some res) : ct_MV l y_Mo_premium c_Mo_premium 4 none rm_Mo_premium g ws0 sz [.ref (g.2.1 35), .int a1, .int a2, .int a3]  (fun u => ms_Rel g ws0 u res) := by
  refine ct_startv (by decide +kernel) (Nat.le_of_ble_eq_true rfl) (fun p e sv m args below meth c ls Q A H locs C0 hret hl hw => ?_)
  have hx := C0.1
  have hb := C0.2.1
  have hown := C0.2.2.2.1
  have hts := C0.2.2.2.2.1
  have hl : lv_has ls 4 [(0, .ref (g.2.1 35)), (1, .int a1), (2, .int a2), (3, .int a3)] := hl
  have J35 : ∀ (ws : va_W) (H : Heap) (locs : List Loc) (ls : Array Slot) (s : MS) (t1 : Int32), ct_Wd g A sv ws H locs → ms_Rel g ws0 ws s → lv_has ls 4 [(0, .ref (g.2.1 35)), (1, .int a1), (2, .int a2), (3, .int a3)] → bk_Mo_premium_35 a1 a2 a3 s t1 = some res → W p l e rm_Mo_premium sv m args below meth c H locs 0 0 Q (F0 m 35 ls [.int t1, .ref (g.2.1 35)]) := by
    intro ws H locs ls s t1 hw hR hl h
    unfold bk_Mo_premium_35 at h
    refine pf_Mo_55 C0 hw hR d_Mo_premium_35 (fun ws H locs hw hR => ?_)
    obtain ⟨s1, es9, h⟩ := ct_nm_ex h
    rw [← es9] at hR
    clear es9
    refine lv_aload_n hx hb d_Mo_premium_38 rfl (lv_at hl 0 rfl) ?_
    refine gf_Mo_55 C0 hw hR d_Mo_premium_39 ?_
    refine lv_if_ne hx hb (tgt := 57) d_Mo_premium_42 (by decide) (fun hc9 => ?_) (fun hc9 => ?_)
    · rw [if_pos hc9] at h
      obtain rfl := Option.some.inj h
      exact hret hw hR d_Mo_premium_57
    · rw [if_neg (fun q => q hc9)] at h
      refine lv_aload_n hx hb d_Mo_premium_45 rfl (lv_at hl 0 rfl) ?_
      refine gf_Mo_29 C0 hw hR d_Mo_premium_46 ?_
      refine lv_bipush (v := 72) hx hb d_Mo_premium_49 (by decide) ?_
      refine lv_iload_n hx hb d_Mo_premium_51 rfl (lv_at hl 1 rfl) ?_
      refine lv_imul hx hb d_Mo_premium_52 ?_
      refine lv_iload_n hx hb d_Mo_premium_53 rfl (lv_at hl 2 rfl) ?_
      refine lv_iadd hx hb d_Mo_premium_54 ?_
      refine lv_iload_n hx hb d_Mo_premium_55 rfl (lv_at hl 3 rfl) ?_
      obtain ⟨hg56, h⟩ := ct_gd_some h
      refine ct_stma6 C0 hw hR (ct_inR_vp hg56) d_Mo_premium_56 (fun ws H locs hw hR => ?_)
      obtain ⟨s2, es9, h⟩ := ct_nm_ex h
      rw [← es9] at hR
      clear es9
      obtain rfl := Option.some.inj h
      exact hret hw hR d_Mo_premium_57
  unfold fn_Mo_premium at h
  obtain ⟨ws, hwe⟩ : ∃ z : va_W, z = ws0 := ⟨_, rfl⟩
  rw [← hwe] at hw
  have hR : ms_Rel g ws0 ws s := by rw [hwe]; exact hR
  clear hwe
  refine lv_aload_n hx hb d_Mo_premium_0 rfl (lv_at hl 0 rfl) ?_
  refine lv_aload_n hx hb d_Mo_premium_1 rfl (lv_at hl 0 rfl) ?_
  refine lv_iload_n hx hb d_Mo_premium_2 rfl (lv_at hl 1 rfl) ?_
  obtain ⟨x3, ho, h⟩ := ct_ob_some h
  refine ct_callVi C0 hw hl.1 (q0 := 35) (hR.1 35 (by decide) (by decide)) rfl (ct_giV wd_802 wd_804 sel_Mo_noLine wd_7 wd_805) (fun sz => s_Mo_noLine l g ws sz ho) (nA := 1) (rm := rm_Mo_noLine) (by decide +kernel) rfl ⟨rfl, rfl⟩ (by decide) (by decide) (As := [.int a1]) (rest := [.ref (g.2.1 35)]) rfl (Nat.le_of_ble_eq_true rfl) d_Mo_premium_3 (fun ws1 H locs hw hp => ?_)
  rw [hp] at hw
  clear hp
  refine lv_if_ne hx hb (tgt := 30) d_Mo_premium_6 (by decide) (fun hc9 => ?_) (fun hc9 => ?_)
  · rw [if_pos hc9] at h
    refine lv_iconst (v := 1) hx hb d_Mo_premium_30 (by decide) ?_
    refine lv_goto hx hb (tgt := 35) d_Mo_premium_31 (by decide) ?_
    exact J35 ws H locs ls s 1 hw hR (lv_sub hl [0, 1, 2, 3] rfl) h
  · rw [if_neg (fun q => q hc9)] at h
    refine lv_iload_n hx hb d_Mo_premium_9 rfl (lv_at hl 2 rfl) ?_
    refine lv_if_lt hx hb (tgt := 30) d_Mo_premium_10 (by decide) (fun hc9 => ?_) (fun hc9 => ?_)
    · rw [if_pos hc9] at h
      refine lv_iconst (v := 1) hx hb d_Mo_premium_30 (by decide) ?_
      refine lv_goto hx hb (tgt := 35) d_Mo_premium_31 (by decide) ?_
      exact J35 ws H locs ls s 1 hw hR (lv_sub hl [0, 1, 2, 3] rfl) h
    · rw [if_neg hc9] at h
      refine lv_iload_n hx hb d_Mo_premium_13 rfl (lv_at hl 2 rfl) ?_
      refine lv_bipush (v := 71) hx hb d_Mo_premium_14 (by decide) ?_
      refine lv_icmp_gt hx hb (tgt := 30) d_Mo_premium_16 (by decide) (fun hc9 => ?_) (fun hc9 => ?_)
      · rw [if_pos hc9] at h
        refine lv_iconst (v := 1) hx hb d_Mo_premium_30 (by decide) ?_
        refine lv_goto hx hb (tgt := 35) d_Mo_premium_31 (by decide) ?_
        exact J35 ws H locs ls s 1 hw hR (lv_sub hl [0, 1, 2, 3] rfl) h
      · rw [if_neg hc9] at h
        refine lv_iload_n hx hb d_Mo_premium_19 rfl (lv_at hl 3 rfl) ?_
        refine lv_if_lt hx hb (tgt := 30) d_Mo_premium_20 (by decide) (fun hc9 => ?_) (fun hc9 => ?_)
        · rw [if_pos hc9] at h
          refine lv_iconst (v := 1) hx hb d_Mo_premium_30 (by decide) ?_
          refine lv_goto hx hb (tgt := 35) d_Mo_premium_31 (by decide) ?_
          exact J35 ws H locs ls s 1 hw hR (lv_sub hl [0, 1, 2, 3] rfl) h
        · rw [if_neg hc9] at h
          refine lv_iload_n hx hb d_Mo_premium_23 rfl (lv_at hl 3 rfl) ?_
          refine lv_sipush (v := 9999) hx hb d_Mo_premium_24 (by decide) ?_
          refine lv_icmp_le hx hb (tgt := 34) d_Mo_premium_27 (by decide) (fun hc9 => ?_) (fun hc9 => ?_)
          · rw [if_pos hc9] at h
            refine lv_iconst (v := 0) hx hb d_Mo_premium_34 (by decide) ?_
            exact J35 ws H locs ls s 0 hw hR (lv_sub hl [0, 1, 2, 3] rfl) h
          · rw [if_neg hc9] at h
            refine lv_iconst (v := 1) hx hb d_Mo_premium_30 (by decide) ?_
            refine lv_goto hx hb (tgt := 35) d_Mo_premium_31 (by decide) ?_
            exact J35 ws H locs ls s 1 hw hR (lv_sub hl [0, 1, 2, 3] rfl) h

theorem d_Mo_divisor_0 : decode c_Mo_divisor 0 = .ok (.lload_n 1, 1) := by decide +kernel
theorem d_Mo_divisor_1 : decode c_Mo_divisor 1 = .ok (.lstore 5, 2) := by decide +kernel
theorem d_Mo_divisor_3 : decode c_Mo_divisor 3 = .ok (.lload_n 3, 1) := by decide +kernel
theorem d_Mo_divisor_4 : decode c_Mo_divisor 4 = .ok (.lstore 7, 2) := by decide +kernel
theorem d_Mo_divisor_6 : decode c_Mo_divisor 6 = .ok (.lload 7, 2) := by decide +kernel
theorem d_Mo_divisor_8 : decode c_Mo_divisor 8 = .ok (.lconst 0, 1) := by decide +kernel
theorem d_Mo_divisor_9 : decode c_Mo_divisor 9 = .ok (.lcmp, 1) := by decide +kernel
theorem d_Mo_divisor_10 : decode c_Mo_divisor 10 = .ok (.ifCond .eq 21, 3) := by decide +kernel
theorem d_Mo_divisor_13 : decode c_Mo_divisor 13 = .ok (.lload 5, 2) := by decide +kernel
theorem d_Mo_divisor_15 : decode c_Mo_divisor 15 = .ok (.lload 7, 2) := by decide +kernel
theorem d_Mo_divisor_17 : decode c_Mo_divisor 17 = .ok (.lrem, 1) := by decide +kernel
theorem d_Mo_divisor_18 : decode c_Mo_divisor 18 = .ok (.lstore 9, 2) := by decide +kernel
theorem d_Mo_divisor_20 : decode c_Mo_divisor 20 = .ok (.lload 7, 2) := by decide +kernel
theorem d_Mo_divisor_22 : decode c_Mo_divisor 22 = .ok (.lstore 5, 2) := by decide +kernel
theorem d_Mo_divisor_24 : decode c_Mo_divisor 24 = .ok (.lload 9, 2) := by decide +kernel
theorem d_Mo_divisor_26 : decode c_Mo_divisor 26 = .ok (.lstore 7, 2) := by decide +kernel
theorem d_Mo_divisor_28 : decode c_Mo_divisor 28 = .ok (.goto (-22), 3) := by decide +kernel
theorem d_Mo_divisor_31 : decode c_Mo_divisor 31 = .ok (.lload 5, 2) := by decide +kernel
theorem d_Mo_divisor_33 : decode c_Mo_divisor 33 = .ok (.lreturn, 1) := by decide +kernel
set_option maxHeartbeats 4000000 in
set_option maxRecDepth 100000 in
theorem s_Mo_divisor (l : Launch) (g : Gx) (ws0 : va_W) (sz : Nat) {a1 : Int64} {a2 : Int64} {res : Int64} (h : fn_Mo_divisor a1 a2 = some res) : ct_ML l y_Mo_divisor c_Mo_divisor 11 (some .long) rm_Mo_divisor g ws0 sz [.ref (g.2.1 35), .long a1, .long a2] res (fun u => u = ws0) := by
  refine ct_startl (by decide +kernel) (Nat.le_of_ble_eq_true rfl) (fun p e sv m args below meth c ls Q A H locs C0 hret hl hw => ?_)
  have hx := C0.1
  have hb := C0.2.1
  have hown := C0.2.2.2.1
  have hts := C0.2.2.2.2.1
  have hl : lv_has ls 11 [(0, .ref (g.2.1 35)), (1, .long a1), (3, .long a2)] := hl
  have L6 : ∀ (n6 : Nat) (H : Heap) (locs : List Loc) (ls : Array Slot) (v5 : Int64) (v7 : Int64), ct_Wd g A sv ws0 H locs → lv_has ls 11 [(5, .long v5), (7, .long v7)] → bk_Mo_divisor_6 a1 a2 n6 v5 v7 = some res → W p l e rm_Mo_divisor sv m args below meth c H locs 0 0 Q (F0 m 6 ls []) := by
    intro n6
    induction n6 with
    | zero =>
      intro H locs ls v5 v7 hw hl h
      exact absurd h (by simp [bk_Mo_divisor_6])
    | succ n6 ih6 =>
      intro H locs ls v5 v7 hw hl h
      have h : bk_Mo_divisor_6_o a1 a2 (bk_Mo_divisor_6 a1 a2 n6) v5 v7 = some res := h
      unfold bk_Mo_divisor_6_o at h
      refine lv_lload hx hb d_Mo_divisor_6 (lv_at hl 1 rfl) ?_
      refine lv_lconst (v := 0) hx hb d_Mo_divisor_8 (by decide) ?_
      refine W.lcmp hx hb d_Mo_divisor_9 ?_
      refine lv_if_eq hx hb (tgt := 31) d_Mo_divisor_10 (by decide) (fun hc9 => ?_) (fun hc9 => ?_)
      · rw [if_pos hc9] at h
        refine lv_lload hx hb d_Mo_divisor_31 (lv_at hl 0 rfl) ?_
        obtain rfl := Option.some.inj h
        exact hret hw rfl d_Mo_divisor_33
      · rw [if_neg hc9] at h
        refine lv_lload hx hb d_Mo_divisor_13 (lv_at hl 0 rfl) ?_
        refine lv_lload hx hb d_Mo_divisor_15 (lv_at hl 1 rfl) ?_
        obtain ⟨hg, h⟩ := ct_gd_some h
        refine lv_lrem hx hb d_Mo_divisor_17 (ct_gzL_ne hg) ?_
        refine lv_topl (fun x1 e9 => ?_)
        have h := ct_nm_at h e9
        clear e9
        refine lv_lstore (lv' := [(9, .long x1), (5, .long v5), (7, .long v7)]) hx hb d_Mo_divisor_18 hl (by decide) rfl (fun ls hl => ?_)
        refine lv_lload hx hb d_Mo_divisor_20 (lv_at hl 2 rfl) ?_
        refine lv_lstore (lv' := [(5, .long v7), (9, .long x1), (7, .long v7)]) hx hb d_Mo_divisor_22 hl (by decide) rfl (fun ls hl => ?_)
        refine lv_lload hx hb d_Mo_divisor_24 (lv_at hl 1 rfl) ?_
        refine lv_lstore (lv' := [(7, .long x1), (5, .long v7), (9, .long x1)]) hx hb d_Mo_divisor_26 hl (by decide) rfl (fun ls hl => ?_)
        refine lv_goto hx hb (tgt := 6) d_Mo_divisor_28 (by decide) ?_
        exact ih6 H locs ls v7 x1 hw (lv_sub hl [1, 0] rfl) h
  unfold fn_Mo_divisor at h
  refine lv_lload_n hx hb d_Mo_divisor_0 rfl (lv_at hl 1 rfl) ?_
  refine lv_lstore (lv' := [(5, .long a1), (0, .ref (g.2.1 35)), (1, .long a1), (3, .long a2)]) hx hb d_Mo_divisor_1 hl (by decide) rfl (fun ls hl => ?_)
  refine lv_lload_n hx hb d_Mo_divisor_3 rfl (lv_at hl 3 rfl) ?_
  refine lv_lstore (lv' := [(7, .long a2), (5, .long a1), (0, .ref (g.2.1 35)), (1, .long a1), (3, .long a2)]) hx hb d_Mo_divisor_4 hl (by decide) rfl (fun ls hl => ?_)
  exact L6 200 H locs ls a1 a2 hw (lv_sub hl [1, 0] rfl) h

theorem d_Mo_ratio_0 : decode c_Mo_ratio 0 = .ok (.aload_n 0, 1) := by decide +kernel
theorem d_Mo_ratio_1 : decode c_Mo_ratio 1 = .ok (.iload_n 1, 1) := by decide +kernel
theorem d_Mo_ratio_2 : decode c_Mo_ratio 2 = .ok (.iconst (-1), 1) := by decide +kernel
theorem d_Mo_ratio_3 : decode c_Mo_ratio 3 = .ok (.if_icmp .lt 31, 3) := by decide +kernel
theorem d_Mo_ratio_6 : decode c_Mo_ratio 6 = .ok (.iload_n 1, 1) := by decide +kernel
theorem d_Mo_ratio_7 : decode c_Mo_ratio 7 = .ok (.iconst 1, 1) := by decide +kernel
theorem d_Mo_ratio_8 : decode c_Mo_ratio 8 = .ok (.if_icmp .gt 26, 3) := by decide +kernel
theorem d_Mo_ratio_11 : decode c_Mo_ratio 11 = .ok (.iload_n 2, 1) := by decide +kernel
theorem d_Mo_ratio_12 : decode c_Mo_ratio 12 = .ok (.ifCond .lt 22, 3) := by decide +kernel
theorem d_Mo_ratio_15 : decode c_Mo_ratio 15 = .ok (.iload_n 2, 1) := by decide +kernel
theorem d_Mo_ratio_16 : decode c_Mo_ratio 16 = .ok (.sipush 9999, 3) := by decide +kernel
theorem d_Mo_ratio_19 : decode c_Mo_ratio 19 = .ok (.if_icmp .gt 15, 3) := by decide +kernel
theorem d_Mo_ratio_22 : decode c_Mo_ratio 22 = .ok (.iload_n 3, 1) := by decide +kernel
theorem d_Mo_ratio_23 : decode c_Mo_ratio 23 = .ok (.iconst 1, 1) := by decide +kernel
theorem d_Mo_ratio_24 : decode c_Mo_ratio 24 = .ok (.if_icmp .lt 10, 3) := by decide +kernel
theorem d_Mo_ratio_27 : decode c_Mo_ratio 27 = .ok (.iload_n 3, 1) := by decide +kernel
theorem d_Mo_ratio_28 : decode c_Mo_ratio 28 = .ok (.sipush 9999, 3) := by decide +kernel
theorem d_Mo_ratio_31 : decode c_Mo_ratio 31 = .ok (.if_icmp .le 7, 3) := by decide +kernel
theorem d_Mo_ratio_34 : decode c_Mo_ratio 34 = .ok (.iconst 1, 1) := by decide +kernel
theorem d_Mo_ratio_35 : decode c_Mo_ratio 35 = .ok (.goto 4, 3) := by decide +kernel
theorem d_Mo_ratio_38 : decode c_Mo_ratio 38 = .ok (.iconst 0, 1) := by decide +kernel
theorem d_Mo_ratio_39 : decode c_Mo_ratio 39 = .ok (.putfield 55, 3) := by decide +kernel
theorem d_Mo_ratio_42 : decode c_Mo_ratio 42 = .ok (.aload_n 0, 1) := by decide +kernel
theorem d_Mo_ratio_43 : decode c_Mo_ratio 43 = .ok (.getfield 55, 3) := by decide +kernel
theorem d_Mo_ratio_46 : decode c_Mo_ratio 46 = .ok (.ifCond .ne 48, 3) := by decide +kernel
theorem d_Mo_ratio_49 : decode c_Mo_ratio 49 = .ok (.iload_n 1, 1) := by decide +kernel
theorem d_Mo_ratio_50 : decode c_Mo_ratio 50 = .ok (.ifCond .ge 7, 3) := by decide +kernel
theorem d_Mo_ratio_53 : decode c_Mo_ratio 53 = .ok (.iconst 2, 1) := by decide +kernel
theorem d_Mo_ratio_54 : decode c_Mo_ratio 54 = .ok (.goto 4, 3) := by decide +kernel
theorem d_Mo_ratio_57 : decode c_Mo_ratio 57 = .ok (.iload_n 1, 1) := by decide +kernel
theorem d_Mo_ratio_58 : decode c_Mo_ratio 58 = .ok (.istore 4, 2) := by decide +kernel
theorem d_Mo_ratio_60 : decode c_Mo_ratio 60 = .ok (.aload_n 0, 1) := by decide +kernel
theorem d_Mo_ratio_61 : decode c_Mo_ratio 61 = .ok (.iload_n 2, 1) := by decide +kernel
theorem d_Mo_ratio_62 : decode c_Mo_ratio 62 = .ok (.i2l, 1) := by decide +kernel
theorem d_Mo_ratio_63 : decode c_Mo_ratio 63 = .ok (.iload_n 3, 1) := by decide +kernel
theorem d_Mo_ratio_64 : decode c_Mo_ratio 64 = .ok (.i2l, 1) := by decide +kernel
theorem d_Mo_ratio_65 : decode c_Mo_ratio 65 = .ok (.invokevirtual 76, 3) := by decide +kernel
theorem d_Mo_ratio_68 : decode c_Mo_ratio 68 = .ok (.lstore 5, 2) := by decide +kernel
theorem d_Mo_ratio_70 : decode c_Mo_ratio 70 = .ok (.aload_n 0, 1) := by decide +kernel
theorem d_Mo_ratio_71 : decode c_Mo_ratio 71 = .ok (.getfield 32, 3) := by decide +kernel
theorem d_Mo_ratio_74 : decode c_Mo_ratio 74 = .ok (.iload 4, 2) := by decide +kernel
theorem d_Mo_ratio_76 : decode c_Mo_ratio 76 = .ok (.iload_n 2, 1) := by decide +kernel
theorem d_Mo_ratio_77 : decode c_Mo_ratio 77 = .ok (.i2l, 1) := by decide +kernel
theorem d_Mo_ratio_78 : decode c_Mo_ratio 78 = .ok (.lload 5, 2) := by decide +kernel
theorem d_Mo_ratio_80 : decode c_Mo_ratio 80 = .ok (.ldiv, 1) := by decide +kernel
theorem d_Mo_ratio_81 : decode c_Mo_ratio 81 = .ok (.lastore, 1) := by decide +kernel
theorem d_Mo_ratio_82 : decode c_Mo_ratio 82 = .ok (.aload_n 0, 1) := by decide +kernel
theorem d_Mo_ratio_83 : decode c_Mo_ratio 83 = .ok (.getfield 36, 3) := by decide +kernel
theorem d_Mo_ratio_86 : decode c_Mo_ratio 86 = .ok (.iload 4, 2) := by decide +kernel
theorem d_Mo_ratio_88 : decode c_Mo_ratio 88 = .ok (.iload_n 3, 1) := by decide +kernel
theorem d_Mo_ratio_89 : decode c_Mo_ratio 89 = .ok (.i2l, 1) := by decide +kernel
theorem d_Mo_ratio_90 : decode c_Mo_ratio 90 = .ok (.lload 5, 2) := by decide +kernel
theorem d_Mo_ratio_92 : decode c_Mo_ratio 92 = .ok (.ldiv, 1) := by decide +kernel
theorem d_Mo_ratio_93 : decode c_Mo_ratio 93 = .ok (.lastore, 1) := by decide +kernel
theorem d_Mo_ratio_94 : decode c_Mo_ratio 94 = .ok (.return_, 1) := by decide +kernel
set_option maxHeartbeats 4000000 in
set_option maxRecDepth 100000 in
theorem s_Mo_ratio (l : Launch) (g : Gx) (ws0 : va_W) (sz : Nat) {s : MS} {a1 : Int32} {a2 : Int32} {a3 : Int32} {res : MS} (hR : ms_Rel g ws0 ws0 s) (h : fn_Mo_ratio s a1 a2 a3 = some res) : ct_MV l y_Mo_ratio c_Mo_ratio 7 none rm_Mo_ratio g ws0 sz [.ref (g.2.1 35), .int a1, .int a2, .int a3]  (fun u => ms_Rel g ws0 u res) := by
  refine ct_startv (by decide +kernel) (Nat.le_of_ble_eq_true rfl) (fun p e sv m args below meth c ls Q A H locs C0 hret hl hw => ?_)
  have hx := C0.1
  have hb := C0.2.1
  have hown := C0.2.2.2.1
  have hts := C0.2.2.2.2.1
  have hl : lv_has ls 7 [(0, .ref (g.2.1 35)), (1, .int a1), (2, .int a2), (3, .int a3)] := hl
  have J58 : ∀ (ws : va_W) (H : Heap) (locs : List Loc) (ls : Array Slot) (s : MS) (t0 : Int32), ct_Wd g A sv ws H locs → ms_Rel g ws0 ws s → lv_has ls 7 [(0, .ref (g.2.1 35)), (2, .int a2), (3, .int a3)] → bk_Mo_ratio_58 a1 a2 a3 s t0 = some res → W p l e rm_Mo_ratio sv m args below meth c H locs 0 0 Q (F0 m 58 ls [.int t0]) := by
    intro ws H locs ls s t0 hw hR hl h
    unfold bk_Mo_ratio_58 at h
    refine lv_istore (lv' := [(4, .int t0), (0, .ref (g.2.1 35)), (2, .int a2), (3, .int a3)]) hx hb d_Mo_ratio_58 hl (by decide) rfl (fun ls hl => ?_)
    refine lv_aload_n hx hb d_Mo_ratio_60 rfl (lv_at hl 1 rfl) ?_
    refine lv_iload_n hx hb d_Mo_ratio_61 rfl (lv_at hl 2 rfl) ?_
    refine lv_i2l hx hb d_Mo_ratio_62 rfl ?_
    refine lv_iload_n hx hb d_Mo_ratio_63 rfl (lv_at hl 3 rfl) ?_
    refine lv_i2l hx hb d_Mo_ratio_64 rfl ?_
    obtain ⟨x1, ho, h⟩ := ct_ob_some h
    refine ct_callVl C0 hw hl.1 (q0 := 35) (hR.1 35 (by decide) (by decide)) rfl (ct_giV wd_834 wd_836 sel_Mo_divisor wd_7 wd_837) (fun sz => s_Mo_divisor l g ws sz ho) (nA := 2) (rm := rm_Mo_divisor) (by decide +kernel) rfl ⟨rfl, rfl⟩ (by decide) (by decide) (As := [.long a2.toInt64, .long a3.toInt64]) (rest := []) rfl (Nat.le_of_ble_eq_true rfl) d_Mo_ratio_65 (fun ws1 H locs hw hp => ?_)
    rw [hp] at hw
    clear hp
    refine lv_lstore (lv' := [(5, .long x1), (4, .int t0), (0, .ref (g.2.1 35)), (2, .int a2), (3, .int a3)]) hx hb d_Mo_ratio_68 hl (by decide) rfl (fun ls hl => ?_)
    refine lv_aload_n hx hb d_Mo_ratio_70 rfl (lv_at hl 2 rfl) ?_
    refine gf_Mo_32 C0 hw hR d_Mo_ratio_71 ?_
    refine lv_iload hx hb d_Mo_ratio_74 (lv_at hl 1 rfl) ?_
    refine lv_iload_n hx hb d_Mo_ratio_76 rfl (lv_at hl 3 rfl) ?_
    refine lv_i2l hx hb d_Mo_ratio_77 rfl ?_
    refine lv_lload hx hb d_Mo_ratio_78 (lv_at hl 0 rfl) ?_
    obtain ⟨hg, h⟩ := ct_gd_some h
    refine lv_ldiv hx hb d_Mo_ratio_80 (ct_gzL_ne hg) ?_
    obtain ⟨hg81, h⟩ := ct_gd_some h
    refine ct_stml0 C0 hw hR (ct_inR_vp hg81) d_Mo_ratio_81 (fun ws H locs hw hR => ?_)
    obtain ⟨s2, es9, h⟩ := ct_nm_ex h
    rw [← es9] at hR
    clear es9
    refine lv_aload_n hx hb d_Mo_ratio_82 rfl (lv_at hl 2 rfl) ?_
    refine gf_Mo_36 C0 hw hR d_Mo_ratio_83 ?_
    refine lv_iload hx hb d_Mo_ratio_86 (lv_at hl 1 rfl) ?_
    refine lv_iload_n hx hb d_Mo_ratio_88 rfl (lv_at hl 4 rfl) ?_
    refine lv_i2l hx hb d_Mo_ratio_89 rfl ?_
    refine lv_lload hx hb d_Mo_ratio_90 (lv_at hl 0 rfl) ?_
    obtain ⟨hg, h⟩ := ct_gd_some h
    refine lv_ldiv hx hb d_Mo_ratio_92 (ct_gzL_ne hg) ?_
    obtain ⟨hg93, h⟩ := ct_gd_some h
    refine ct_stml1 C0 hw hR (ct_inR_vp hg93) d_Mo_ratio_93 (fun ws H locs hw hR => ?_)
    obtain ⟨s3, es9, h⟩ := ct_nm_ex h
    rw [← es9] at hR
    clear es9
    obtain rfl := Option.some.inj h
    exact hret hw hR d_Mo_ratio_94
  have J39 : ∀ (ws : va_W) (H : Heap) (locs : List Loc) (ls : Array Slot) (s : MS) (t1 : Int32), ct_Wd g A sv ws H locs → ms_Rel g ws0 ws s → lv_has ls 7 [(0, .ref (g.2.1 35)), (1, .int a1), (2, .int a2), (3, .int a3)] → bk_Mo_ratio_39 a1 a2 a3 s t1 = some res → W p l e rm_Mo_ratio sv m args below meth c H locs 0 0 Q (F0 m 39 ls [.int t1, .ref (g.2.1 35)]) := by
    intro ws H locs ls s t1 hw hR hl h
    unfold bk_Mo_ratio_39 at h
    refine pf_Mo_55 C0 hw hR d_Mo_ratio_39 (fun ws H locs hw hR => ?_)
    obtain ⟨s4, es9, h⟩ := ct_nm_ex h
    rw [← es9] at hR
    clear es9
    refine lv_aload_n hx hb d_Mo_ratio_42 rfl (lv_at hl 0 rfl) ?_
    refine gf_Mo_55 C0 hw hR d_Mo_ratio_43 ?_
    refine lv_if_ne hx hb (tgt := 94) d_Mo_ratio_46 (by decide) (fun hc9 => ?_) (fun hc9 => ?_)
    · rw [if_pos hc9] at h
      obtain rfl := Option.some.inj h
      exact hret hw hR d_Mo_ratio_94
    · rw [if_neg (fun q => q hc9)] at h
      refine lv_iload_n hx hb d_Mo_ratio_49 rfl (lv_at hl 1 rfl) ?_
      refine lv_if_ge hx hb (tgt := 57) d_Mo_ratio_50 (by decide) (fun hc9 => ?_) (fun hc9 => ?_)
      · rw [if_pos hc9] at h
        refine lv_iload_n hx hb d_Mo_ratio_57 rfl (lv_at hl 1 rfl) ?_
        exact J58 ws H locs ls s4 a1 hw hR (lv_sub hl [0, 2, 3] rfl) h
      · rw [if_neg hc9] at h
        refine lv_iconst (v := 2) hx hb d_Mo_ratio_53 (by decide) ?_
        refine lv_goto hx hb (tgt := 58) d_Mo_ratio_54 (by decide) ?_
        exact J58 ws H locs ls s4 2 hw hR (lv_sub hl [0, 2, 3] rfl) h
  unfold fn_Mo_ratio at h
  obtain ⟨ws, hwe⟩ : ∃ z : va_W, z = ws0 := ⟨_, rfl⟩
  rw [← hwe] at hw
  have hR : ms_Rel g ws0 ws s := by rw [hwe]; exact hR
  clear hwe
  refine lv_aload_n hx hb d_Mo_ratio_0 rfl (lv_at hl 0 rfl) ?_
  refine lv_iload_n hx hb d_Mo_ratio_1 rfl (lv_at hl 1 rfl) ?_
  refine lv_iconst (v := (-1)) hx hb d_Mo_ratio_2 (by decide) ?_
  refine lv_icmp_lt hx hb (tgt := 34) d_Mo_ratio_3 (by decide) (fun hc9 => ?_) (fun hc9 => ?_)
  · rw [if_pos hc9] at h
    refine lv_iconst (v := 1) hx hb d_Mo_ratio_34 (by decide) ?_
    refine lv_goto hx hb (tgt := 39) d_Mo_ratio_35 (by decide) ?_
    exact J39 ws H locs ls s 1 hw hR (lv_sub hl [0, 1, 2, 3] rfl) h
  · rw [if_neg hc9] at h
    refine lv_iload_n hx hb d_Mo_ratio_6 rfl (lv_at hl 1 rfl) ?_
    refine lv_iconst (v := 1) hx hb d_Mo_ratio_7 (by decide) ?_
    refine lv_icmp_gt hx hb (tgt := 34) d_Mo_ratio_8 (by decide) (fun hc9 => ?_) (fun hc9 => ?_)
    · rw [if_pos hc9] at h
      refine lv_iconst (v := 1) hx hb d_Mo_ratio_34 (by decide) ?_
      refine lv_goto hx hb (tgt := 39) d_Mo_ratio_35 (by decide) ?_
      exact J39 ws H locs ls s 1 hw hR (lv_sub hl [0, 1, 2, 3] rfl) h
    · rw [if_neg hc9] at h
      refine lv_iload_n hx hb d_Mo_ratio_11 rfl (lv_at hl 2 rfl) ?_
      refine lv_if_lt hx hb (tgt := 34) d_Mo_ratio_12 (by decide) (fun hc9 => ?_) (fun hc9 => ?_)
      · rw [if_pos hc9] at h
        refine lv_iconst (v := 1) hx hb d_Mo_ratio_34 (by decide) ?_
        refine lv_goto hx hb (tgt := 39) d_Mo_ratio_35 (by decide) ?_
        exact J39 ws H locs ls s 1 hw hR (lv_sub hl [0, 1, 2, 3] rfl) h
      · rw [if_neg hc9] at h
        refine lv_iload_n hx hb d_Mo_ratio_15 rfl (lv_at hl 2 rfl) ?_
        refine lv_sipush (v := 9999) hx hb d_Mo_ratio_16 (by decide) ?_
        refine lv_icmp_gt hx hb (tgt := 34) d_Mo_ratio_19 (by decide) (fun hc9 => ?_) (fun hc9 => ?_)
        · rw [if_pos hc9] at h
          refine lv_iconst (v := 1) hx hb d_Mo_ratio_34 (by decide) ?_
          refine lv_goto hx hb (tgt := 39) d_Mo_ratio_35 (by decide) ?_
          exact J39 ws H locs ls s 1 hw hR (lv_sub hl [0, 1, 2, 3] rfl) h
        · rw [if_neg hc9] at h
          refine lv_iload_n hx hb d_Mo_ratio_22 rfl (lv_at hl 3 rfl) ?_
          refine lv_iconst (v := 1) hx hb d_Mo_ratio_23 (by decide) ?_
          refine lv_icmp_lt hx hb (tgt := 34) d_Mo_ratio_24 (by decide) (fun hc9 => ?_) (fun hc9 => ?_)
          · rw [if_pos hc9] at h
            refine lv_iconst (v := 1) hx hb d_Mo_ratio_34 (by decide) ?_
            refine lv_goto hx hb (tgt := 39) d_Mo_ratio_35 (by decide) ?_
            exact J39 ws H locs ls s 1 hw hR (lv_sub hl [0, 1, 2, 3] rfl) h
          · rw [if_neg hc9] at h
            refine lv_iload_n hx hb d_Mo_ratio_27 rfl (lv_at hl 3 rfl) ?_
            refine lv_sipush (v := 9999) hx hb d_Mo_ratio_28 (by decide) ?_
            refine lv_icmp_le hx hb (tgt := 38) d_Mo_ratio_31 (by decide) (fun hc9 => ?_) (fun hc9 => ?_)
            · rw [if_pos hc9] at h
              refine lv_iconst (v := 0) hx hb d_Mo_ratio_38 (by decide) ?_
              exact J39 ws H locs ls s 0 hw hR (lv_sub hl [0, 1, 2, 3] rfl) h
            · rw [if_neg hc9] at h
              refine lv_iconst (v := 1) hx hb d_Mo_ratio_34 (by decide) ?_
              refine lv_goto hx hb (tgt := 39) d_Mo_ratio_35 (by decide) ?_
              exact J39 ws H locs ls s 1 hw hR (lv_sub hl [0, 1, 2, 3] rfl) h

theorem d_Mo_build_0 : decode c_Mo_build 0 = .ok (.aload_n 0, 1) := by decide +kernel
theorem d_Mo_build_1 : decode c_Mo_build 1 = .ok (.aload_n 0, 1) := by decide +kernel
theorem d_Mo_build_2 : decode c_Mo_build 2 = .ok (.iload_n 1, 1) := by decide +kernel
theorem d_Mo_build_3 : decode c_Mo_build 3 = .ok (.invokevirtual 58, 3) := by decide +kernel
theorem d_Mo_build_6 : decode c_Mo_build 6 = .ok (.ifCond .ne 27, 3) := by decide +kernel
theorem d_Mo_build_9 : decode c_Mo_build 9 = .ok (.iload_n 2, 1) := by decide +kernel
theorem d_Mo_build_10 : decode c_Mo_build 10 = .ok (.iconst 1, 1) := by decide +kernel
theorem d_Mo_build_11 : decode c_Mo_build 11 = .ok (.if_icmp .lt 22, 3) := by decide +kernel
theorem d_Mo_build_14 : decode c_Mo_build 14 = .ok (.iload_n 2, 1) := by decide +kernel
theorem d_Mo_build_15 : decode c_Mo_build 15 = .ok (.bipush 12, 2) := by decide +kernel
theorem d_Mo_build_17 : decode c_Mo_build 17 = .ok (.if_icmp .gt 16, 3) := by decide +kernel
theorem d_Mo_build_20 : decode c_Mo_build 20 = .ok (.iload 4, 2) := by decide +kernel
theorem d_Mo_build_22 : decode c_Mo_build 22 = .ok (.iconst 1, 1) := by decide +kernel
theorem d_Mo_build_23 : decode c_Mo_build 23 = .ok (.if_icmp .lt 10, 3) := by decide +kernel
theorem d_Mo_build_26 : decode c_Mo_build 26 = .ok (.iload 4, 2) := by decide +kernel
theorem d_Mo_build_28 : decode c_Mo_build 28 = .ok (.bipush 6, 2) := by decide +kernel
theorem d_Mo_build_30 : decode c_Mo_build 30 = .ok (.if_icmp .le 7, 3) := by decide +kernel
theorem d_Mo_build_33 : decode c_Mo_build 33 = .ok (.iconst 1, 1) := by decide +kernel
theorem d_Mo_build_34 : decode c_Mo_build 34 = .ok (.goto 4, 3) := by decide +kernel
theorem d_Mo_build_37 : decode c_Mo_build 37 = .ok (.iconst 0, 1) := by decide +kernel
theorem d_Mo_build_38 : decode c_Mo_build 38 = .ok (.putfield 55, 3) := by decide +kernel
theorem d_Mo_build_41 : decode c_Mo_build 41 = .ok (.aload_n 0, 1) := by decide +kernel
theorem d_Mo_build_42 : decode c_Mo_build 42 = .ok (.getfield 55, 3) := by decide +kernel
theorem d_Mo_build_45 : decode c_Mo_build 45 = .ok (.ifCond .eq 4, 3) := by decide +kernel
theorem d_Mo_build_48 : decode c_Mo_build 48 = .ok (.return_, 1) := by decide +kernel
theorem d_Mo_build_49 : decode c_Mo_build 49 = .ok (.aload_n 0, 1) := by decide +kernel
theorem d_Mo_build_50 : decode c_Mo_build 50 = .ok (.iload_n 1, 1) := by decide +kernel
theorem d_Mo_build_51 : decode c_Mo_build 51 = .ok (.putfield 80, 3) := by decide +kernel
theorem d_Mo_build_54 : decode c_Mo_build 54 = .ok (.aload_n 0, 1) := by decide +kernel
theorem d_Mo_build_55 : decode c_Mo_build 55 = .ok (.iload_n 2, 1) := by decide +kernel
theorem d_Mo_build_56 : decode c_Mo_build 56 = .ok (.putfield 39, 3) := by decide +kernel
theorem d_Mo_build_59 : decode c_Mo_build 59 = .ok (.aload_n 0, 1) := by decide +kernel
theorem d_Mo_build_60 : decode c_Mo_build 60 = .ok (.iload_n 3, 1) := by decide +kernel
theorem d_Mo_build_61 : decode c_Mo_build 61 = .ok (.putfield 83, 3) := by decide +kernel
theorem d_Mo_build_64 : decode c_Mo_build 64 = .ok (.aload_n 0, 1) := by decide +kernel
theorem d_Mo_build_65 : decode c_Mo_build 65 = .ok (.iload 4, 2) := by decide +kernel
theorem d_Mo_build_67 : decode c_Mo_build 67 = .ok (.putfield 43, 3) := by decide +kernel
theorem d_Mo_build_70 : decode c_Mo_build 70 = .ok (.aload_n 0, 1) := by decide +kernel
theorem d_Mo_build_71 : decode c_Mo_build 71 = .ok (.iconst 0, 1) := by decide +kernel
theorem d_Mo_build_72 : decode c_Mo_build 72 = .ok (.putfield 87, 3) := by decide +kernel
theorem d_Mo_build_75 : decode c_Mo_build 75 = .ok (.iconst 0, 1) := by decide +kernel
theorem d_Mo_build_76 : decode c_Mo_build 76 = .ok (.istore 5, 2) := by decide +kernel
theorem d_Mo_build_78 : decode c_Mo_build 78 = .ok (.iload 5, 2) := by decide +kernel
theorem d_Mo_build_80 : decode c_Mo_build 80 = .ok (.bipush 36, 2) := by decide +kernel
theorem d_Mo_build_82 : decode c_Mo_build 82 = .ok (.if_icmp .ge 17, 3) := by decide +kernel
theorem d_Mo_build_85 : decode c_Mo_build 85 = .ok (.aload_n 0, 1) := by decide +kernel
theorem d_Mo_build_86 : decode c_Mo_build 86 = .ok (.getfield 49, 3) := by decide +kernel
theorem d_Mo_build_89 : decode c_Mo_build 89 = .ok (.iload 5, 2) := by decide +kernel
theorem d_Mo_build_91 : decode c_Mo_build 91 = .ok (.iconst 0, 1) := by decide +kernel
theorem d_Mo_build_92 : decode c_Mo_build 92 = .ok (.bastore, 1) := by decide +kernel
theorem d_Mo_build_93 : decode c_Mo_build 93 = .ok (.iinc 5 1, 3) := by decide +kernel
theorem d_Mo_build_96 : decode c_Mo_build 96 = .ok (.goto (-18), 3) := by decide +kernel
theorem d_Mo_build_99 : decode c_Mo_build 99 = .ok (.return_, 1) := by decide +kernel
set_option maxHeartbeats 4000000 in
set_option maxRecDepth 100000 in
theorem s_Mo_build (l : Launch) (g : Gx) (ws0 : va_W) (sz : Nat) {s : MS} {a1 : Int32} {a2 : Int32} {a3 : Int32} {a4 : Int32} {res : MS} (hR : ms_Rel g ws0 ws0 s) (h : fn_Mo_build s a1 a2 a3 a4 = some res) : ct_MV l y_Mo_build c_Mo_build 6 none rm_Mo_build g ws0 sz [.ref (g.2.1 35), .int a1, .int a2, .int a3, .int a4]  (fun u => ms_Rel g ws0 u res) := by
  refine ct_startv (by decide +kernel) (Nat.le_of_ble_eq_true rfl) (fun p e sv m args below meth c ls Q A H locs C0 hret hl hw => ?_)
  have hx := C0.1
  have hb := C0.2.1
  have hown := C0.2.2.2.1
  have hts := C0.2.2.2.2.1
  have hl : lv_has ls 6 [(0, .ref (g.2.1 35)), (1, .int a1), (2, .int a2), (3, .int a3), (4, .int a4)] := hl
  have L78 : ∀ (n78 : Nat) (ws : va_W) (H : Heap) (locs : List Loc) (ls : Array Slot) (s : MS) (v5 : Int32), ct_Wd g A sv ws H locs → ms_Rel g ws0 ws s → lv_has ls 6 [(0, .ref (g.2.1 35)), (5, .int v5)] → bk_Mo_build_78 a1 a2 a3 a4 n78 s v5 = some res → W p l e rm_Mo_build sv m args below meth c H locs 0 0 Q (F0 m 78 ls []) := by
    intro n78
    induction n78 with
    | zero =>
      intro ws H locs ls s v5 hw hR hl h
      exact absurd h (by simp [bk_Mo_build_78])
    | succ n78 ih78 =>
      intro ws H locs ls s v5 hw hR hl h
      have h : bk_Mo_build_78_o a1 a2 a3 a4 (bk_Mo_build_78 a1 a2 a3 a4 n78) s v5 = some res := h
      unfold bk_Mo_build_78_o at h
      refine lv_iload hx hb d_Mo_build_78 (lv_at hl 1 rfl) ?_
      refine lv_bipush (v := 36) hx hb d_Mo_build_80 (by decide) ?_
      refine lv_icmp_ge hx hb (tgt := 99) d_Mo_build_82 (by decide) (fun hc9 => ?_) (fun hc9 => ?_)
      · rw [if_pos hc9] at h
        obtain rfl := Option.some.inj h
        exact hret hw hR d_Mo_build_99
      · rw [if_neg hc9] at h
        refine lv_aload_n hx hb d_Mo_build_85 rfl (lv_at hl 0 rfl) ?_
        refine gf_Mo_49 C0 hw hR d_Mo_build_86 ?_
        refine lv_iload hx hb d_Mo_build_89 (lv_at hl 1 rfl) ?_
        refine lv_iconst (v := 0) hx hb d_Mo_build_91 (by decide) ?_
        obtain ⟨hg92, h⟩ := ct_gd_some h
        refine ct_stma7 C0 hw hR (ct_inR_vp hg92) d_Mo_build_92 (fun ws H locs hw hR => ?_)
        obtain ⟨s1, es9, h⟩ := ct_nm_ex h
        rw [← es9] at hR
        clear es9
        refine lv_iinc (v := v5 + 1) (k := 1) (lv' := [(5, .int (v5 + 1)), (0, .ref (g.2.1 35))]) hx hb d_Mo_build_93 hl rfl rfl (by decide) rfl (fun ls hl => ?_)
        refine lv_goto hx hb (tgt := 78) d_Mo_build_96 (by decide) ?_
        exact ih78 ws H locs ls s1 (v5 + 1) hw hR (lv_sub hl [1, 0] rfl) h
  have J38 : ∀ (ws : va_W) (H : Heap) (locs : List Loc) (ls : Array Slot) (s : MS) (t1 : Int32), ct_Wd g A sv ws H locs → ms_Rel g ws0 ws s → lv_has ls 6 [(0, .ref (g.2.1 35)), (1, .int a1), (2, .int a2), (3, .int a3), (4, .int a4)] → bk_Mo_build_38 a1 a2 a3 a4 s t1 = some res → W p l e rm_Mo_build sv m args below meth c H locs 0 0 Q (F0 m 38 ls [.int t1, .ref (g.2.1 35)]) := by
    intro ws H locs ls s t1 hw hR hl h
    unfold bk_Mo_build_38 at h
    refine pf_Mo_55 C0 hw hR d_Mo_build_38 (fun ws H locs hw hR => ?_)
    obtain ⟨s2, es9, h⟩ := ct_nm_ex h
    rw [← es9] at hR
    clear es9
    refine lv_aload_n hx hb d_Mo_build_41 rfl (lv_at hl 0 rfl) ?_
    refine gf_Mo_55 C0 hw hR d_Mo_build_42 ?_
    refine lv_if_eq hx hb (tgt := 49) d_Mo_build_45 (by decide) (fun hc9 => ?_) (fun hc9 => ?_)
    · rw [if_pos hc9] at h
      refine lv_aload_n hx hb d_Mo_build_49 rfl (lv_at hl 0 rfl) ?_
      refine lv_iload_n hx hb d_Mo_build_50 rfl (lv_at hl 1 rfl) ?_
      refine pf_Mo_80 C0 hw hR d_Mo_build_51 (fun ws H locs hw hR => ?_)
      obtain ⟨s3, es9, h⟩ := ct_nm_ex h
      rw [← es9] at hR
      clear es9
      refine lv_aload_n hx hb d_Mo_build_54 rfl (lv_at hl 0 rfl) ?_
      refine lv_iload_n hx hb d_Mo_build_55 rfl (lv_at hl 2 rfl) ?_
      refine pf_Mo_39 C0 hw hR d_Mo_build_56 (fun ws H locs hw hR => ?_)
      obtain ⟨s4, es9, h⟩ := ct_nm_ex h
      rw [← es9] at hR
      clear es9
      refine lv_aload_n hx hb d_Mo_build_59 rfl (lv_at hl 0 rfl) ?_
      refine lv_iload_n hx hb d_Mo_build_60 rfl (lv_at hl 3 rfl) ?_
      obtain ⟨hg, h⟩ := ct_gd_some h
      refine pf_Mo_83 C0 hw hR hg d_Mo_build_61 (fun ws H locs hw hR => ?_)
      obtain ⟨s5, es9, h⟩ := ct_nm_ex h
      rw [← es9] at hR
      clear es9
      refine lv_aload_n hx hb d_Mo_build_64 rfl (lv_at hl 0 rfl) ?_
      refine lv_iload hx hb d_Mo_build_65 (lv_at hl 4 rfl) ?_
      refine pf_Mo_43 C0 hw hR d_Mo_build_67 (fun ws H locs hw hR => ?_)
      obtain ⟨s6, es9, h⟩ := ct_nm_ex h
      rw [← es9] at hR
      clear es9
      refine lv_aload_n hx hb d_Mo_build_70 rfl (lv_at hl 0 rfl) ?_
      refine lv_iconst (v := 0) hx hb d_Mo_build_71 (by decide) ?_
      refine pf_Mo_87 C0 hw hR d_Mo_build_72 (fun ws H locs hw hR => ?_)
      obtain ⟨s7, es9, h⟩ := ct_nm_ex h
      rw [← es9] at hR
      clear es9
      refine lv_iconst (v := 0) hx hb d_Mo_build_75 (by decide) ?_
      refine lv_istore (lv' := [(5, .int 0), (0, .ref (g.2.1 35)), (1, .int a1), (2, .int a2), (3, .int a3), (4, .int a4)]) hx hb d_Mo_build_76 hl (by decide) rfl (fun ls hl => ?_)
      exact L78 200 ws H locs ls s7 0 hw hR (lv_sub hl [1, 0] rfl) h
    · rw [if_neg hc9] at h
      obtain rfl := Option.some.inj h
      exact hret hw hR d_Mo_build_48
  unfold fn_Mo_build at h
  obtain ⟨ws, hwe⟩ : ∃ z : va_W, z = ws0 := ⟨_, rfl⟩
  rw [← hwe] at hw
  have hR : ms_Rel g ws0 ws s := by rw [hwe]; exact hR
  clear hwe
  refine lv_aload_n hx hb d_Mo_build_0 rfl (lv_at hl 0 rfl) ?_
  refine lv_aload_n hx hb d_Mo_build_1 rfl (lv_at hl 0 rfl) ?_
  refine lv_iload_n hx hb d_Mo_build_2 rfl (lv_at hl 1 rfl) ?_
  obtain ⟨x8, ho, h⟩ := ct_ob_some h
  refine ct_callVi C0 hw hl.1 (q0 := 35) (hR.1 35 (by decide) (by decide)) rfl (ct_giV wd_802 wd_804 sel_Mo_noLine wd_7 wd_805) (fun sz => s_Mo_noLine l g ws sz ho) (nA := 1) (rm := rm_Mo_noLine) (by decide +kernel) rfl ⟨rfl, rfl⟩ (by decide) (by decide) (As := [.int a1]) (rest := [.ref (g.2.1 35)]) rfl (Nat.le_of_ble_eq_true rfl) d_Mo_build_3 (fun ws1 H locs hw hp => ?_)
  rw [hp] at hw
  clear hp
  refine lv_if_ne hx hb (tgt := 33) d_Mo_build_6 (by decide) (fun hc9 => ?_) (fun hc9 => ?_)
  · rw [if_pos hc9] at h
    refine lv_iconst (v := 1) hx hb d_Mo_build_33 (by decide) ?_
    refine lv_goto hx hb (tgt := 38) d_Mo_build_34 (by decide) ?_
    exact J38 ws H locs ls s 1 hw hR (lv_sub hl [0, 1, 2, 3, 4] rfl) h
  · rw [if_neg (fun q => q hc9)] at h
    refine lv_iload_n hx hb d_Mo_build_9 rfl (lv_at hl 2 rfl) ?_
    refine lv_iconst (v := 1) hx hb d_Mo_build_10 (by decide) ?_
    refine lv_icmp_lt hx hb (tgt := 33) d_Mo_build_11 (by decide) (fun hc9 => ?_) (fun hc9 => ?_)
    · rw [if_pos hc9] at h
      refine lv_iconst (v := 1) hx hb d_Mo_build_33 (by decide) ?_
      refine lv_goto hx hb (tgt := 38) d_Mo_build_34 (by decide) ?_
      exact J38 ws H locs ls s 1 hw hR (lv_sub hl [0, 1, 2, 3, 4] rfl) h
    · rw [if_neg hc9] at h
      refine lv_iload_n hx hb d_Mo_build_14 rfl (lv_at hl 2 rfl) ?_
      refine lv_bipush (v := 12) hx hb d_Mo_build_15 (by decide) ?_
      refine lv_icmp_gt hx hb (tgt := 33) d_Mo_build_17 (by decide) (fun hc9 => ?_) (fun hc9 => ?_)
      · rw [if_pos hc9] at h
        refine lv_iconst (v := 1) hx hb d_Mo_build_33 (by decide) ?_
        refine lv_goto hx hb (tgt := 38) d_Mo_build_34 (by decide) ?_
        exact J38 ws H locs ls s 1 hw hR (lv_sub hl [0, 1, 2, 3, 4] rfl) h
      · rw [if_neg hc9] at h
        refine lv_iload hx hb d_Mo_build_20 (lv_at hl 4 rfl) ?_
        refine lv_iconst (v := 1) hx hb d_Mo_build_22 (by decide) ?_
        refine lv_icmp_lt hx hb (tgt := 33) d_Mo_build_23 (by decide) (fun hc9 => ?_) (fun hc9 => ?_)
        · rw [if_pos hc9] at h
          refine lv_iconst (v := 1) hx hb d_Mo_build_33 (by decide) ?_
          refine lv_goto hx hb (tgt := 38) d_Mo_build_34 (by decide) ?_
          exact J38 ws H locs ls s 1 hw hR (lv_sub hl [0, 1, 2, 3, 4] rfl) h
        · rw [if_neg hc9] at h
          refine lv_iload hx hb d_Mo_build_26 (lv_at hl 4 rfl) ?_
          refine lv_bipush (v := 6) hx hb d_Mo_build_28 (by decide) ?_
          refine lv_icmp_le hx hb (tgt := 37) d_Mo_build_30 (by decide) (fun hc9 => ?_) (fun hc9 => ?_)
          · rw [if_pos hc9] at h
            refine lv_iconst (v := 0) hx hb d_Mo_build_37 (by decide) ?_
            exact J38 ws H locs ls s 0 hw hR (lv_sub hl [0, 1, 2, 3, 4] rfl) h
          · rw [if_neg hc9] at h
            refine lv_iconst (v := 1) hx hb d_Mo_build_33 (by decide) ?_
            refine lv_goto hx hb (tgt := 38) d_Mo_build_34 (by decide) ?_
            exact J38 ws H locs ls s 1 hw hR (lv_sub hl [0, 1, 2, 3, 4] rfl) h

theorem d_Mo_estimateOf_0 : decode c_Mo_estimateOf 0 = .ok (.iconst (-1), 1) := by decide +kernel
theorem d_Mo_estimateOf_1 : decode c_Mo_estimateOf 1 = .ok (.istore_n 3, 1) := by decide +kernel
theorem d_Mo_estimateOf_2 : decode c_Mo_estimateOf 2 = .ok (.iconst 0, 1) := by decide +kernel
theorem d_Mo_estimateOf_3 : decode c_Mo_estimateOf 3 = .ok (.istore 4, 2) := by decide +kernel
theorem d_Mo_estimateOf_5 : decode c_Mo_estimateOf 5 = .ok (.iload 4, 2) := by decide +kernel
theorem d_Mo_estimateOf_7 : decode c_Mo_estimateOf 7 = .ok (.aload_n 0, 1) := by decide +kernel
theorem d_Mo_estimateOf_8 : decode c_Mo_estimateOf 8 = .ok (.getfield 66, 3) := by decide +kernel
theorem d_Mo_estimateOf_11 : decode c_Mo_estimateOf 11 = .ok (.if_icmp .ge 104, 3) := by decide +kernel
theorem d_Mo_estimateOf_14 : decode c_Mo_estimateOf 14 = .ok (.aload_n 0, 1) := by decide +kernel
theorem d_Mo_estimateOf_15 : decode c_Mo_estimateOf 15 = .ok (.getfield 22, 3) := by decide +kernel
theorem d_Mo_estimateOf_18 : decode c_Mo_estimateOf 18 = .ok (.iload 4, 2) := by decide +kernel
theorem d_Mo_estimateOf_20 : decode c_Mo_estimateOf 20 = .ok (.baload, 1) := by decide +kernel
theorem d_Mo_estimateOf_21 : decode c_Mo_estimateOf 21 = .ok (.ifCond .ne 53, 3) := by decide +kernel
theorem d_Mo_estimateOf_24 : decode c_Mo_estimateOf 24 = .ok (.aload_n 0, 1) := by decide +kernel
theorem d_Mo_estimateOf_25 : decode c_Mo_estimateOf 25 = .ok (.getfield 26, 3) := by decide +kernel
theorem d_Mo_estimateOf_28 : decode c_Mo_estimateOf 28 = .ok (.iload 4, 2) := by decide +kernel
theorem d_Mo_estimateOf_30 : decode c_Mo_estimateOf 30 = .ok (.baload, 1) := by decide +kernel
theorem d_Mo_estimateOf_31 : decode c_Mo_estimateOf 31 = .ok (.ifCond .ne 43, 3) := by decide +kernel
theorem d_Mo_estimateOf_34 : decode c_Mo_estimateOf 34 = .ok (.aload_n 0, 1) := by decide +kernel
theorem d_Mo_estimateOf_35 : decode c_Mo_estimateOf 35 = .ok (.getfield 7, 3) := by decide +kernel
theorem d_Mo_estimateOf_38 : decode c_Mo_estimateOf 38 = .ok (.iload 4, 2) := by decide +kernel
theorem d_Mo_estimateOf_40 : decode c_Mo_estimateOf 40 = .ok (.iaload, 1) := by decide +kernel
theorem d_Mo_estimateOf_41 : decode c_Mo_estimateOf 41 = .ok (.aload_n 0, 1) := by decide +kernel
theorem d_Mo_estimateOf_42 : decode c_Mo_estimateOf 42 = .ok (.getfield 80, 3) := by decide +kernel
theorem d_Mo_estimateOf_45 : decode c_Mo_estimateOf 45 = .ok (.if_icmp .ne 29, 3) := by decide +kernel
theorem d_Mo_estimateOf_48 : decode c_Mo_estimateOf 48 = .ok (.aload_n 0, 1) := by decide +kernel
theorem d_Mo_estimateOf_49 : decode c_Mo_estimateOf 49 = .ok (.getfield 13, 3) := by decide +kernel
theorem d_Mo_estimateOf_52 : decode c_Mo_estimateOf 52 = .ok (.iload 4, 2) := by decide +kernel
theorem d_Mo_estimateOf_54 : decode c_Mo_estimateOf 54 = .ok (.iaload, 1) := by decide +kernel
theorem d_Mo_estimateOf_55 : decode c_Mo_estimateOf 55 = .ok (.iload_n 1, 1) := by decide +kernel
theorem d_Mo_estimateOf_56 : decode c_Mo_estimateOf 56 = .ok (.if_icmp .ne 18, 3) := by decide +kernel
theorem d_Mo_estimateOf_59 : decode c_Mo_estimateOf 59 = .ok (.aload_n 0, 1) := by decide +kernel
theorem d_Mo_estimateOf_60 : decode c_Mo_estimateOf 60 = .ok (.getfield 16, 3) := by decide +kernel
theorem d_Mo_estimateOf_63 : decode c_Mo_estimateOf 63 = .ok (.iload 4, 2) := by decide +kernel
theorem d_Mo_estimateOf_65 : decode c_Mo_estimateOf 65 = .ok (.iaload, 1) := by decide +kernel
theorem d_Mo_estimateOf_66 : decode c_Mo_estimateOf 66 = .ok (.iload_n 2, 1) := by decide +kernel
theorem d_Mo_estimateOf_67 : decode c_Mo_estimateOf 67 = .ok (.if_icmp .ge 7, 3) := by decide +kernel
theorem d_Mo_estimateOf_70 : decode c_Mo_estimateOf 70 = .ok (.iconst 1, 1) := by decide +kernel
theorem d_Mo_estimateOf_71 : decode c_Mo_estimateOf 71 = .ok (.goto 4, 3) := by decide +kernel
theorem d_Mo_estimateOf_74 : decode c_Mo_estimateOf 74 = .ok (.iconst 0, 1) := by decide +kernel
theorem d_Mo_estimateOf_75 : decode c_Mo_estimateOf 75 = .ok (.istore 5, 2) := by decide +kernel
theorem d_Mo_estimateOf_77 : decode c_Mo_estimateOf 77 = .ok (.iload 5, 2) := by decide +kernel
theorem d_Mo_estimateOf_79 : decode c_Mo_estimateOf 79 = .ok (.ifCond .eq 28, 3) := by decide +kernel
theorem d_Mo_estimateOf_82 : decode c_Mo_estimateOf 82 = .ok (.iload_n 3, 1) := by decide +kernel
theorem d_Mo_estimateOf_83 : decode c_Mo_estimateOf 83 = .ok (.ifCond .lt 19, 3) := by decide +kernel
theorem d_Mo_estimateOf_86 : decode c_Mo_estimateOf 86 = .ok (.aload_n 0, 1) := by decide +kernel
theorem d_Mo_estimateOf_87 : decode c_Mo_estimateOf 87 = .ok (.getfield 16, 3) := by decide +kernel
theorem d_Mo_estimateOf_90 : decode c_Mo_estimateOf 90 = .ok (.iload 4, 2) := by decide +kernel
theorem d_Mo_estimateOf_92 : decode c_Mo_estimateOf 92 = .ok (.iaload, 1) := by decide +kernel
theorem d_Mo_estimateOf_93 : decode c_Mo_estimateOf 93 = .ok (.aload_n 0, 1) := by decide +kernel
theorem d_Mo_estimateOf_94 : decode c_Mo_estimateOf 94 = .ok (.getfield 16, 3) := by decide +kernel
theorem d_Mo_estimateOf_97 : decode c_Mo_estimateOf 97 = .ok (.iload_n 3, 1) := by decide +kernel
theorem d_Mo_estimateOf_98 : decode c_Mo_estimateOf 98 = .ok (.iaload, 1) := by decide +kernel
theorem d_Mo_estimateOf_99 : decode c_Mo_estimateOf 99 = .ok (.if_icmp .lt 8, 3) := by decide +kernel
theorem d_Mo_estimateOf_102 : decode c_Mo_estimateOf 102 = .ok (.iload 4, 2) := by decide +kernel
theorem d_Mo_estimateOf_104 : decode c_Mo_estimateOf 104 = .ok (.goto 4, 3) := by decide +kernel
theorem d_Mo_estimateOf_107 : decode c_Mo_estimateOf 107 = .ok (.iload_n 3, 1) := by decide +kernel
theorem d_Mo_estimateOf_108 : decode c_Mo_estimateOf 108 = .ok (.istore_n 3, 1) := by decide +kernel
theorem d_Mo_estimateOf_109 : decode c_Mo_estimateOf 109 = .ok (.iinc 4 1, 3) := by decide +kernel
theorem d_Mo_estimateOf_112 : decode c_Mo_estimateOf 112 = .ok (.goto (-107), 3) := by decide +kernel
theorem d_Mo_estimateOf_115 : decode c_Mo_estimateOf 115 = .ok (.iload_n 3, 1) := by decide +kernel
theorem d_Mo_estimateOf_116 : decode c_Mo_estimateOf 116 = .ok (.ifCond .ge 7, 3) := by decide +kernel
theorem d_Mo_estimateOf_119 : decode c_Mo_estimateOf 119 = .ok (.iconst 0, 1) := by decide +kernel
theorem d_Mo_estimateOf_120 : decode c_Mo_estimateOf 120 = .ok (.goto 9, 3) := by decide +kernel
theorem d_Mo_estimateOf_123 : decode c_Mo_estimateOf 123 = .ok (.aload_n 0, 1) := by decide +kernel
theorem d_Mo_estimateOf_124 : decode c_Mo_estimateOf 124 = .ok (.getfield 19, 3) := by decide +kernel
theorem d_Mo_estimateOf_127 : decode c_Mo_estimateOf 127 = .ok (.iload_n 3, 1) := by decide +kernel
theorem d_Mo_estimateOf_128 : decode c_Mo_estimateOf 128 = .ok (.iaload, 1) := by decide +kernel
theorem d_Mo_estimateOf_129 : decode c_Mo_estimateOf 129 = .ok (.ireturn, 1) := by decide +kernel
set_option maxHeartbeats 4000000 in
set_option maxRecDepth 100000 in
theorem s_Mo_estimateOf (l : Launch) (g : Gx) (ws0 : va_W) (sz : Nat) {s : MS} {a1 : Int32} {a2 : Int32} {res : Int32} (hR : ms_Rel g ws0 ws0 s) (h : fn_Mo_estimateOf s a1 a2 = some res) : ct_MI l y_Mo_estimateOf c_Mo_estimateOf 6 (some .int) rm_Mo_estimateOf g ws0 sz [.ref (g.2.1 35), .int a1, .int a2] res (fun u => u = ws0) := by
  refine ct_starti (by decide +kernel) (Nat.le_of_ble_eq_true rfl) (fun p e sv m args below meth c ls Q A H locs C0 hret hl hw => ?_)
  have hx := C0.1
  have hb := C0.2.1
  have hown := C0.2.2.2.1
  have hts := C0.2.2.2.2.1
  have hl : lv_has ls 6 [(0, .ref (g.2.1 35)), (1, .int a1), (2, .int a2)] := hl
  have L5 : ∀ (n5 : Nat) (H : Heap) (locs : List Loc) (ls : Array Slot) (s : MS) (v3 : Int32) (v4 : Int32), ct_Wd g A sv ws0 H locs → ms_Rel g ws0 ws0 s → lv_has ls 6 [(0, .ref (g.2.1 35)), (1, .int a1), (2, .int a2), (3, .int v3), (4, .int v4)] → bk_Mo_estimateOf_5 a1 a2 n5 s v3 v4 = some res → W p l e rm_Mo_estimateOf sv m args below meth c H locs 0 0 Q (F0 m 5 ls []) := by
    intro n5
    induction n5 with
    | zero =>
      intro H locs ls s v3 v4 hw hR hl h
      exact absurd h (by simp [bk_Mo_estimateOf_5])
    | succ n5 ih5 =>
      have J108 : ∀ (H : Heap) (locs : List Loc) (ls : Array Slot) (s : MS) (t0 : Int32) (v4 : Int32), ct_Wd g A sv ws0 H locs → ms_Rel g ws0 ws0 s → lv_has ls 6 [(0, .ref (g.2.1 35)), (1, .int a1), (2, .int a2), (4, .int v4)] → bk_Mo_estimateOf_108 a1 a2 (bk_Mo_estimateOf_5 a1 a2 n5) s t0 v4 = some res → W p l e rm_Mo_estimateOf sv m args below meth c H locs 0 0 Q (F0 m 108 ls [.int t0]) := by
        intro H locs ls s t0 v4 hw hR hl h
        unfold bk_Mo_estimateOf_108 at h
        refine lv_istore_n (lv' := [(3, .int t0), (0, .ref (g.2.1 35)), (1, .int a1), (2, .int a2), (4, .int v4)]) hx hb d_Mo_estimateOf_108 rfl hl (by decide) rfl (fun ls hl => ?_)
        refine lv_iinc (v := v4 + 1) (k := 4) (lv' := [(4, .int (v4 + 1)), (3, .int t0), (0, .ref (g.2.1 35)), (1, .int a1), (2, .int a2)]) hx hb d_Mo_estimateOf_109 hl rfl rfl (by decide) rfl (fun ls hl => ?_)
        refine lv_goto hx hb (tgt := 5) d_Mo_estimateOf_112 (by decide) ?_
        exact ih5 H locs ls s t0 (v4 + 1) hw hR (lv_sub hl [2, 3, 4, 1, 0] rfl) h
      have J75 : ∀ (H : Heap) (locs : List Loc) (ls : Array Slot) (s : MS) (t0 : Int32) (v3 : Int32) (v4 : Int32), ct_Wd g A sv ws0 H locs → ms_Rel g ws0 ws0 s → lv_has ls 6 [(0, .ref (g.2.1 35)), (1, .int a1), (2, .int a2), (3, .int v3), (4, .int v4)] → bk_Mo_estimateOf_75 a1 a2 (bk_Mo_estimateOf_5 a1 a2 n5) s t0 v3 v4 = some res → W p l e rm_Mo_estimateOf sv m args below meth c H locs 0 0 Q (F0 m 75 ls [.int t0]) := by
        intro H locs ls s t0 v3 v4 hw hR hl h
        unfold bk_Mo_estimateOf_75 at h
        refine lv_istore (lv' := [(5, .int t0), (0, .ref (g.2.1 35)), (1, .int a1), (2, .int a2), (3, .int v3), (4, .int v4)]) hx hb d_Mo_estimateOf_75 hl (by decide) rfl (fun ls hl => ?_)
        refine lv_iload hx hb d_Mo_estimateOf_77 (lv_at hl 0 rfl) ?_
        refine lv_if_eq hx hb (tgt := 107) d_Mo_estimateOf_79 (by decide) (fun hc9 => ?_) (fun hc9 => ?_)
        · rw [if_pos hc9] at h
          refine lv_iload_n hx hb d_Mo_estimateOf_107 rfl (lv_at hl 4 rfl) ?_
          exact J108 H locs ls s v3 v4 hw hR (lv_sub hl [1, 2, 3, 5] rfl) h
        · rw [if_neg hc9] at h
          refine lv_iload_n hx hb d_Mo_estimateOf_82 rfl (lv_at hl 4 rfl) ?_
          refine lv_if_lt hx hb (tgt := 102) d_Mo_estimateOf_83 (by decide) (fun hc9 => ?_) (fun hc9 => ?_)
          · rw [if_pos hc9] at h
            refine lv_iload hx hb d_Mo_estimateOf_102 (lv_at hl 5 rfl) ?_
            refine lv_goto hx hb (tgt := 108) d_Mo_estimateOf_104 (by decide) ?_
            exact J108 H locs ls s v4 v4 hw hR (lv_sub hl [1, 2, 3, 5] rfl) h
          · rw [if_neg hc9] at h
            refine lv_aload_n hx hb d_Mo_estimateOf_86 rfl (lv_at hl 1 rfl) ?_
            refine gf_Mo_16 C0 hw hR d_Mo_estimateOf_87 ?_
            refine lv_iload hx hb d_Mo_estimateOf_90 (lv_at hl 5 rfl) ?_
            obtain ⟨hg92, h⟩ := ct_gd_some h
            refine ct_ldma2 C0 hw hR (ct_inR_vp hg92) d_Mo_estimateOf_92 ?_
            refine lv_aload_n hx hb d_Mo_estimateOf_93 rfl (lv_at hl 1 rfl) ?_
            refine gf_Mo_16 C0 hw hR d_Mo_estimateOf_94 ?_
            refine lv_iload_n hx hb d_Mo_estimateOf_97 rfl (lv_at hl 4 rfl) ?_
            obtain ⟨hg98, h⟩ := ct_gd_some h
            refine ct_ldma2 C0 hw hR (ct_inR_vp hg98) d_Mo_estimateOf_98 ?_
            refine lv_icmp_lt hx hb (tgt := 107) d_Mo_estimateOf_99 (by decide) (fun hc9 => ?_) (fun hc9 => ?_)
            · rw [if_pos hc9] at h
              refine lv_iload_n hx hb d_Mo_estimateOf_107 rfl (lv_at hl 4 rfl) ?_
              exact J108 H locs ls s v3 v4 hw hR (lv_sub hl [1, 2, 3, 5] rfl) h
            · rw [if_neg hc9] at h
              refine lv_iload hx hb d_Mo_estimateOf_102 (lv_at hl 5 rfl) ?_
              refine lv_goto hx hb (tgt := 108) d_Mo_estimateOf_104 (by decide) ?_
              exact J108 H locs ls s v4 v4 hw hR (lv_sub hl [1, 2, 3, 5] rfl) h
      intro H locs ls s v3 v4 hw hR hl h
      have h : bk_Mo_estimateOf_5_o a1 a2 (bk_Mo_estimateOf_5 a1 a2 n5) s v3 v4 = some res := h
      unfold bk_Mo_estimateOf_5_o at h
      refine lv_iload hx hb d_Mo_estimateOf_5 (lv_at hl 4 rfl) ?_
      refine lv_aload_n hx hb d_Mo_estimateOf_7 rfl (lv_at hl 0 rfl) ?_
      refine gf_Mo_66 C0 hw hR d_Mo_estimateOf_8 ?_
      refine lv_icmp_ge hx hb (tgt := 115) d_Mo_estimateOf_11 (by decide) (fun hc9 => ?_) (fun hc9 => ?_)
      · rw [if_pos hc9] at h
        refine lv_iload_n hx hb d_Mo_estimateOf_115 rfl (lv_at hl 3 rfl) ?_
        refine lv_if_ge hx hb (tgt := 123) d_Mo_estimateOf_116 (by decide) (fun hc9 => ?_) (fun hc9 => ?_)
        · rw [if_pos hc9] at h
          refine lv_aload_n hx hb d_Mo_estimateOf_123 rfl (lv_at hl 0 rfl) ?_
          refine gf_Mo_19 C0 hw hR d_Mo_estimateOf_124 ?_
          refine lv_iload_n hx hb d_Mo_estimateOf_127 rfl (lv_at hl 3 rfl) ?_
          obtain ⟨hg128, h⟩ := ct_gd_some h
          refine ct_ldma3 C0 hw hR (ct_inR_vp hg128) d_Mo_estimateOf_128 ?_
          obtain rfl := Option.some.inj h
          exact hret hw rfl d_Mo_estimateOf_129
        · rw [if_neg hc9] at h
          refine lv_iconst (v := 0) hx hb d_Mo_estimateOf_119 (by decide) ?_
          refine lv_goto hx hb (tgt := 129) d_Mo_estimateOf_120 (by decide) ?_
          obtain rfl := Option.some.inj h
          exact hret hw rfl d_Mo_estimateOf_129
      · rw [if_neg hc9] at h
        refine lv_aload_n hx hb d_Mo_estimateOf_14 rfl (lv_at hl 0 rfl) ?_
        refine gf_Mo_22 C0 hw hR d_Mo_estimateOf_15 ?_
        refine lv_iload hx hb d_Mo_estimateOf_18 (lv_at hl 4 rfl) ?_
        obtain ⟨hg20, h⟩ := ct_gd_some h
        refine ct_ldma4 C0 hw hR (ct_inR_vp hg20) d_Mo_estimateOf_20 ?_
        refine lv_if_ne hx hb (tgt := 74) d_Mo_estimateOf_21 (by decide) (fun hc9 => ?_) (fun hc9 => ?_)
        · rw [if_pos hc9] at h
          refine lv_iconst (v := 0) hx hb d_Mo_estimateOf_74 (by decide) ?_
          exact J75 H locs ls s 0 v3 v4 hw hR (lv_sub hl [0, 1, 2, 3, 4] rfl) h
        · rw [if_neg (fun q => q hc9)] at h
          refine lv_aload_n hx hb d_Mo_estimateOf_24 rfl (lv_at hl 0 rfl) ?_
          refine gf_Mo_26 C0 hw hR d_Mo_estimateOf_25 ?_
          refine lv_iload hx hb d_Mo_estimateOf_28 (lv_at hl 4 rfl) ?_
          obtain ⟨hg30, h⟩ := ct_gd_some h
          refine ct_ldma5 C0 hw hR (ct_inR_vp hg30) d_Mo_estimateOf_30 ?_
          refine lv_if_ne hx hb (tgt := 74) d_Mo_estimateOf_31 (by decide) (fun hc9 => ?_) (fun hc9 => ?_)
          · rw [if_pos hc9] at h
            refine lv_iconst (v := 0) hx hb d_Mo_estimateOf_74 (by decide) ?_
            exact J75 H locs ls s 0 v3 v4 hw hR (lv_sub hl [0, 1, 2, 3, 4] rfl) h
          · rw [if_neg (fun q => q hc9)] at h
            refine lv_aload_n hx hb d_Mo_estimateOf_34 rfl (lv_at hl 0 rfl) ?_
            refine gf_Mo_7 C0 hw hR d_Mo_estimateOf_35 ?_
            refine lv_iload hx hb d_Mo_estimateOf_38 (lv_at hl 4 rfl) ?_
            obtain ⟨hg40, h⟩ := ct_gd_some h
            refine ct_ldma0 C0 hw hR (ct_inR_vp hg40) d_Mo_estimateOf_40 ?_
            refine lv_aload_n hx hb d_Mo_estimateOf_41 rfl (lv_at hl 0 rfl) ?_
            refine gf_Mo_80 C0 hw hR d_Mo_estimateOf_42 ?_
            refine lv_icmp_ne hx hb (tgt := 74) d_Mo_estimateOf_45 (by decide) (fun hc9 => ?_) (fun hc9 => ?_)
            · rw [if_pos hc9] at h
              refine lv_iconst (v := 0) hx hb d_Mo_estimateOf_74 (by decide) ?_
              exact J75 H locs ls s 0 v3 v4 hw hR (lv_sub hl [0, 1, 2, 3, 4] rfl) h
            · rw [if_neg (fun q => q hc9)] at h
              refine lv_aload_n hx hb d_Mo_estimateOf_48 rfl (lv_at hl 0 rfl) ?_
              refine gf_Mo_13 C0 hw hR d_Mo_estimateOf_49 ?_
              refine lv_iload hx hb d_Mo_estimateOf_52 (lv_at hl 4 rfl) ?_
              obtain ⟨hg54, h⟩ := ct_gd_some h
              refine ct_ldma1 C0 hw hR (ct_inR_vp hg54) d_Mo_estimateOf_54 ?_
              refine lv_iload_n hx hb d_Mo_estimateOf_55 rfl (lv_at hl 1 rfl) ?_
              refine lv_icmp_ne hx hb (tgt := 74) d_Mo_estimateOf_56 (by decide) (fun hc9 => ?_) (fun hc9 => ?_)
              · rw [if_pos hc9] at h
                refine lv_iconst (v := 0) hx hb d_Mo_estimateOf_74 (by decide) ?_
                exact J75 H locs ls s 0 v3 v4 hw hR (lv_sub hl [0, 1, 2, 3, 4] rfl) h
              · rw [if_neg (fun q => q hc9)] at h
                refine lv_aload_n hx hb d_Mo_estimateOf_59 rfl (lv_at hl 0 rfl) ?_
                refine gf_Mo_16 C0 hw hR d_Mo_estimateOf_60 ?_
                refine lv_iload hx hb d_Mo_estimateOf_63 (lv_at hl 4 rfl) ?_
                obtain ⟨hg65, h⟩ := ct_gd_some h
                refine ct_ldma2 C0 hw hR (ct_inR_vp hg65) d_Mo_estimateOf_65 ?_
                refine lv_iload_n hx hb d_Mo_estimateOf_66 rfl (lv_at hl 2 rfl) ?_
                refine lv_icmp_ge hx hb (tgt := 74) d_Mo_estimateOf_67 (by decide) (fun hc9 => ?_) (fun hc9 => ?_)
                · rw [if_pos hc9] at h
                  refine lv_iconst (v := 0) hx hb d_Mo_estimateOf_74 (by decide) ?_
                  exact J75 H locs ls s 0 v3 v4 hw hR (lv_sub hl [0, 1, 2, 3, 4] rfl) h
                · rw [if_neg hc9] at h
                  refine lv_iconst (v := 1) hx hb d_Mo_estimateOf_70 (by decide) ?_
                  refine lv_goto hx hb (tgt := 75) d_Mo_estimateOf_71 (by decide) ?_
                  exact J75 H locs ls s 1 v3 v4 hw hR (lv_sub hl [0, 1, 2, 3, 4] rfl) h
  unfold fn_Mo_estimateOf at h
  refine lv_iconst (v := (-1)) hx hb d_Mo_estimateOf_0 (by decide) ?_
  refine lv_istore_n (lv' := [(3, .int (-1)), (0, .ref (g.2.1 35)), (1, .int a1), (2, .int a2)]) hx hb d_Mo_estimateOf_1 rfl hl (by decide) rfl (fun ls hl => ?_)
  refine lv_iconst (v := 0) hx hb d_Mo_estimateOf_2 (by decide) ?_
  refine lv_istore (lv' := [(4, .int 0), (3, .int (-1)), (0, .ref (g.2.1 35)), (1, .int a1), (2, .int a2)]) hx hb d_Mo_estimateOf_3 hl (by decide) rfl (fun ls hl => ?_)
  exact L5 200 H locs ls s (-1) 0 hw hR (lv_sub hl [2, 3, 4, 1, 0] rfl) h

theorem d_Mo_sumOf_0 : decode c_Mo_sumOf 0 = .ok (.iload_n 1, 1) := by decide +kernel
theorem d_Mo_sumOf_1 : decode c_Mo_sumOf 1 = .ok (.iload_n 2, 1) := by decide +kernel
theorem d_Mo_sumOf_2 : decode c_Mo_sumOf 2 = .ok (.iadd, 1) := by decide +kernel
theorem d_Mo_sumOf_3 : decode c_Mo_sumOf 3 = .ok (.iconst 1, 1) := by decide +kernel
theorem d_Mo_sumOf_4 : decode c_Mo_sumOf 4 = .ok (.iadd, 1) := by decide +kernel
theorem d_Mo_sumOf_5 : decode c_Mo_sumOf 5 = .ok (.aload_n 0, 1) := by decide +kernel
theorem d_Mo_sumOf_6 : decode c_Mo_sumOf 6 = .ok (.getfield 39, 3) := by decide +kernel
theorem d_Mo_sumOf_9 : decode c_Mo_sumOf 9 = .ok (.imul, 1) := by decide +kernel
theorem d_Mo_sumOf_10 : decode c_Mo_sumOf 10 = .ok (.istore_n 3, 1) := by decide +kernel
theorem d_Mo_sumOf_11 : decode c_Mo_sumOf 11 = .ok (.iconst 0, 1) := by decide +kernel
theorem d_Mo_sumOf_12 : decode c_Mo_sumOf 12 = .ok (.istore 4, 2) := by decide +kernel
theorem d_Mo_sumOf_14 : decode c_Mo_sumOf 14 = .ok (.iconst 0, 1) := by decide +kernel
theorem d_Mo_sumOf_15 : decode c_Mo_sumOf 15 = .ok (.istore 5, 2) := by decide +kernel
theorem d_Mo_sumOf_17 : decode c_Mo_sumOf 17 = .ok (.iload 5, 2) := by decide +kernel
theorem d_Mo_sumOf_19 : decode c_Mo_sumOf 19 = .ok (.aload_n 0, 1) := by decide +kernel
theorem d_Mo_sumOf_20 : decode c_Mo_sumOf 20 = .ok (.getfield 66, 3) := by decide +kernel
theorem d_Mo_sumOf_23 : decode c_Mo_sumOf 23 = .ok (.if_icmp .ge 98, 3) := by decide +kernel
theorem d_Mo_sumOf_26 : decode c_Mo_sumOf 26 = .ok (.aload_n 0, 1) := by decide +kernel
theorem d_Mo_sumOf_27 : decode c_Mo_sumOf 27 = .ok (.getfield 22, 3) := by decide +kernel
theorem d_Mo_sumOf_30 : decode c_Mo_sumOf 30 = .ok (.iload 5, 2) := by decide +kernel
theorem d_Mo_sumOf_32 : decode c_Mo_sumOf 32 = .ok (.baload, 1) := by decide +kernel
theorem d_Mo_sumOf_33 : decode c_Mo_sumOf 33 = .ok (.ifCond .eq 58, 3) := by decide +kernel
theorem d_Mo_sumOf_36 : decode c_Mo_sumOf 36 = .ok (.aload_n 0, 1) := by decide +kernel
theorem d_Mo_sumOf_37 : decode c_Mo_sumOf 37 = .ok (.getfield 26, 3) := by decide +kernel
theorem d_Mo_sumOf_40 : decode c_Mo_sumOf 40 = .ok (.iload 5, 2) := by decide +kernel
theorem d_Mo_sumOf_42 : decode c_Mo_sumOf 42 = .ok (.baload, 1) := by decide +kernel
theorem d_Mo_sumOf_43 : decode c_Mo_sumOf 43 = .ok (.ifCond .ne 48, 3) := by decide +kernel
theorem d_Mo_sumOf_46 : decode c_Mo_sumOf 46 = .ok (.aload_n 0, 1) := by decide +kernel
theorem d_Mo_sumOf_47 : decode c_Mo_sumOf 47 = .ok (.getfield 7, 3) := by decide +kernel
theorem d_Mo_sumOf_50 : decode c_Mo_sumOf 50 = .ok (.iload 5, 2) := by decide +kernel
theorem d_Mo_sumOf_52 : decode c_Mo_sumOf 52 = .ok (.iaload, 1) := by decide +kernel
theorem d_Mo_sumOf_53 : decode c_Mo_sumOf 53 = .ok (.aload_n 0, 1) := by decide +kernel
theorem d_Mo_sumOf_54 : decode c_Mo_sumOf 54 = .ok (.getfield 80, 3) := by decide +kernel
theorem d_Mo_sumOf_57 : decode c_Mo_sumOf 57 = .ok (.if_icmp .ne 34, 3) := by decide +kernel
theorem d_Mo_sumOf_60 : decode c_Mo_sumOf 60 = .ok (.aload_n 0, 1) := by decide +kernel
theorem d_Mo_sumOf_61 : decode c_Mo_sumOf 61 = .ok (.getfield 13, 3) := by decide +kernel
theorem d_Mo_sumOf_64 : decode c_Mo_sumOf 64 = .ok (.iload 5, 2) := by decide +kernel
theorem d_Mo_sumOf_66 : decode c_Mo_sumOf 66 = .ok (.iaload, 1) := by decide +kernel
theorem d_Mo_sumOf_67 : decode c_Mo_sumOf 67 = .ok (.aload_n 0, 1) := by decide +kernel
theorem d_Mo_sumOf_68 : decode c_Mo_sumOf 68 = .ok (.getfield 39, 3) := by decide +kernel
theorem d_Mo_sumOf_71 : decode c_Mo_sumOf 71 = .ok (.idiv, 1) := by decide +kernel
theorem d_Mo_sumOf_72 : decode c_Mo_sumOf 72 = .ok (.iload_n 1, 1) := by decide +kernel
theorem d_Mo_sumOf_73 : decode c_Mo_sumOf 73 = .ok (.if_icmp .ne 18, 3) := by decide +kernel
theorem d_Mo_sumOf_76 : decode c_Mo_sumOf 76 = .ok (.aload_n 0, 1) := by decide +kernel
theorem d_Mo_sumOf_77 : decode c_Mo_sumOf 77 = .ok (.getfield 16, 3) := by decide +kernel
theorem d_Mo_sumOf_80 : decode c_Mo_sumOf 80 = .ok (.iload 5, 2) := by decide +kernel
theorem d_Mo_sumOf_82 : decode c_Mo_sumOf 82 = .ok (.iaload, 1) := by decide +kernel
theorem d_Mo_sumOf_83 : decode c_Mo_sumOf 83 = .ok (.iload_n 3, 1) := by decide +kernel
theorem d_Mo_sumOf_84 : decode c_Mo_sumOf 84 = .ok (.if_icmp .ge 7, 3) := by decide +kernel
theorem d_Mo_sumOf_87 : decode c_Mo_sumOf 87 = .ok (.iconst 1, 1) := by decide +kernel
theorem d_Mo_sumOf_88 : decode c_Mo_sumOf 88 = .ok (.goto 4, 3) := by decide +kernel
theorem d_Mo_sumOf_91 : decode c_Mo_sumOf 91 = .ok (.iconst 0, 1) := by decide +kernel
theorem d_Mo_sumOf_92 : decode c_Mo_sumOf 92 = .ok (.istore 6, 2) := by decide +kernel
theorem d_Mo_sumOf_94 : decode c_Mo_sumOf 94 = .ok (.iload 4, 2) := by decide +kernel
theorem d_Mo_sumOf_96 : decode c_Mo_sumOf 96 = .ok (.iload 6, 2) := by decide +kernel
theorem d_Mo_sumOf_98 : decode c_Mo_sumOf 98 = .ok (.ifCond .eq 13, 3) := by decide +kernel
theorem d_Mo_sumOf_101 : decode c_Mo_sumOf 101 = .ok (.aload_n 0, 1) := by decide +kernel
theorem d_Mo_sumOf_102 : decode c_Mo_sumOf 102 = .ok (.getfield 19, 3) := by decide +kernel
theorem d_Mo_sumOf_105 : decode c_Mo_sumOf 105 = .ok (.iload 5, 2) := by decide +kernel
theorem d_Mo_sumOf_107 : decode c_Mo_sumOf 107 = .ok (.iaload, 1) := by decide +kernel
theorem d_Mo_sumOf_108 : decode c_Mo_sumOf 108 = .ok (.goto 4, 3) := by decide +kernel
theorem d_Mo_sumOf_111 : decode c_Mo_sumOf 111 = .ok (.iconst 0, 1) := by decide +kernel
theorem d_Mo_sumOf_112 : decode c_Mo_sumOf 112 = .ok (.iadd, 1) := by decide +kernel
theorem d_Mo_sumOf_113 : decode c_Mo_sumOf 113 = .ok (.istore 4, 2) := by decide +kernel
theorem d_Mo_sumOf_115 : decode c_Mo_sumOf 115 = .ok (.iinc 5 1, 3) := by decide +kernel
theorem d_Mo_sumOf_118 : decode c_Mo_sumOf 118 = .ok (.goto (-101), 3) := by decide +kernel
theorem d_Mo_sumOf_121 : decode c_Mo_sumOf 121 = .ok (.iload_n 1, 1) := by decide +kernel
theorem d_Mo_sumOf_122 : decode c_Mo_sumOf 122 = .ok (.aload_n 0, 1) := by decide +kernel
theorem d_Mo_sumOf_123 : decode c_Mo_sumOf 123 = .ok (.getfield 39, 3) := by decide +kernel
theorem d_Mo_sumOf_126 : decode c_Mo_sumOf 126 = .ok (.imul, 1) := by decide +kernel
theorem d_Mo_sumOf_127 : decode c_Mo_sumOf 127 = .ok (.istore 5, 2) := by decide +kernel
theorem d_Mo_sumOf_129 : decode c_Mo_sumOf 129 = .ok (.iload 5, 2) := by decide +kernel
theorem d_Mo_sumOf_131 : decode c_Mo_sumOf 131 = .ok (.iload_n 1, 1) := by decide +kernel
theorem d_Mo_sumOf_132 : decode c_Mo_sumOf 132 = .ok (.aload_n 0, 1) := by decide +kernel
theorem d_Mo_sumOf_133 : decode c_Mo_sumOf 133 = .ok (.getfield 39, 3) := by decide +kernel
theorem d_Mo_sumOf_136 : decode c_Mo_sumOf 136 = .ok (.imul, 1) := by decide +kernel
theorem d_Mo_sumOf_137 : decode c_Mo_sumOf 137 = .ok (.aload_n 0, 1) := by decide +kernel
theorem d_Mo_sumOf_138 : decode c_Mo_sumOf 138 = .ok (.getfield 39, 3) := by decide +kernel
theorem d_Mo_sumOf_141 : decode c_Mo_sumOf 141 = .ok (.iadd, 1) := by decide +kernel
theorem d_Mo_sumOf_142 : decode c_Mo_sumOf 142 = .ok (.if_icmp .ge 28, 3) := by decide +kernel
theorem d_Mo_sumOf_145 : decode c_Mo_sumOf 145 = .ok (.aload_n 0, 1) := by decide +kernel
theorem d_Mo_sumOf_146 : decode c_Mo_sumOf 146 = .ok (.getfield 83, 3) := by decide +kernel
theorem d_Mo_sumOf_149 : decode c_Mo_sumOf 149 = .ok (.ifCond .eq 21, 3) := by decide +kernel
theorem d_Mo_sumOf_152 : decode c_Mo_sumOf 152 = .ok (.iload 4, 2) := by decide +kernel
theorem d_Mo_sumOf_154 : decode c_Mo_sumOf 154 = .ok (.aload_n 0, 1) := by decide +kernel
theorem d_Mo_sumOf_155 : decode c_Mo_sumOf 155 = .ok (.iload 5, 2) := by decide +kernel
theorem d_Mo_sumOf_157 : decode c_Mo_sumOf 157 = .ok (.iload_n 3, 1) := by decide +kernel
theorem d_Mo_sumOf_158 : decode c_Mo_sumOf 158 = .ok (.invokevirtual 90, 3) := by decide +kernel
theorem d_Mo_sumOf_161 : decode c_Mo_sumOf 161 = .ok (.iadd, 1) := by decide +kernel
theorem d_Mo_sumOf_162 : decode c_Mo_sumOf 162 = .ok (.istore 4, 2) := by decide +kernel
theorem d_Mo_sumOf_164 : decode c_Mo_sumOf 164 = .ok (.iinc 5 1, 3) := by decide +kernel
theorem d_Mo_sumOf_167 : decode c_Mo_sumOf 167 = .ok (.goto (-38), 3) := by decide +kernel
theorem d_Mo_sumOf_170 : decode c_Mo_sumOf 170 = .ok (.iload 4, 2) := by decide +kernel
theorem d_Mo_sumOf_172 : decode c_Mo_sumOf 172 = .ok (.ireturn, 1) := by decide +kernel
set_option maxHeartbeats 4000000 in
set_option maxRecDepth 100000 in
theorem s_Mo_sumOf (l : Launch) (g : Gx) (ws0 : va_W) (sz : Nat) {s : MS} {a1 : Int32} {a2 : Int32} {res : Int32} (hR : ms_Rel g ws0 ws0 s) (h : fn_Mo_sumOf s a1 a2 = some res) : ct_MI l y_Mo_sumOf c_Mo_sumOf 7 (some .int) rm_Mo_sumOf g ws0 sz [.ref (g.2.1 35), .int a1, .int a2] res (fun u => u = ws0) := by
  refine ct_starti (by decide +kernel) (Nat.le_of_ble_eq_true rfl) (fun p e sv m args below meth c ls Q A H locs C0 hret hl hw => ?_)
  have hx := C0.1
  have hb := C0.2.1
  have hown := C0.2.2.2.1
  have hts := C0.2.2.2.2.1
  have hl : lv_has ls 7 [(0, .ref (g.2.1 35)), (1, .int a1), (2, .int a2)] := hl
  have L129 : ∀ (n129 : Nat) (H : Heap) (locs : List Loc) (ls : Array Slot) (s : MS) (v3 : Int32) (v4 : Int32) (v5 : Int32), ct_Wd g A sv ws0 H locs → ms_Rel g ws0 ws0 s → lv_has ls 7 [(0, .ref (g.2.1 35)), (1, .int a1), (3, .int v3), (4, .int v4), (5, .int v5)] → bk_Mo_sumOf_129 a1 a2 n129 s v3 v4 v5 = some res → W p l e rm_Mo_sumOf sv m args below meth c H locs 0 0 Q (F0 m 129 ls []) := by
    intro n129
    induction n129 with
    | zero =>
      intro H locs ls s v3 v4 v5 hw hR hl h
      exact absurd h (by simp [bk_Mo_sumOf_129])
    | succ n129 ih129 =>
      intro H locs ls s v3 v4 v5 hw hR hl h
      have h : bk_Mo_sumOf_129_o a1 a2 (bk_Mo_sumOf_129 a1 a2 n129) s v3 v4 v5 = some res := h
      unfold bk_Mo_sumOf_129_o at h
      refine lv_iload hx hb d_Mo_sumOf_129 (lv_at hl 4 rfl) ?_
      refine lv_iload_n hx hb d_Mo_sumOf_131 rfl (lv_at hl 1 rfl) ?_
      refine lv_aload_n hx hb d_Mo_sumOf_132 rfl (lv_at hl 0 rfl) ?_
      refine gf_Mo_39 C0 hw hR d_Mo_sumOf_133 ?_
      refine lv_imul hx hb d_Mo_sumOf_136 ?_
      refine lv_aload_n hx hb d_Mo_sumOf_137 rfl (lv_at hl 0 rfl) ?_
      refine gf_Mo_39 C0 hw hR d_Mo_sumOf_138 ?_
      refine lv_iadd hx hb d_Mo_sumOf_141 ?_
      refine lv_icmp_ge hx hb (tgt := 170) d_Mo_sumOf_142 (by decide) (fun hc9 => ?_) (fun hc9 => ?_)
      · rw [if_pos hc9] at h
        refine lv_iload hx hb d_Mo_sumOf_170 (lv_at hl 3 rfl) ?_
        obtain rfl := Option.some.inj h
        exact hret hw rfl d_Mo_sumOf_172
      · rw [if_neg hc9] at h
        refine lv_aload_n hx hb d_Mo_sumOf_145 rfl (lv_at hl 0 rfl) ?_
        refine gf_Mo_83 C0 hw hR d_Mo_sumOf_146 ?_
        refine lv_if_eq hx hb (tgt := 170) d_Mo_sumOf_149 (by decide) (fun hc9 => ?_) (fun hc9 => ?_)
        · rw [if_pos hc9] at h
          refine lv_iload hx hb d_Mo_sumOf_170 (lv_at hl 3 rfl) ?_
          obtain rfl := Option.some.inj h
          exact hret hw rfl d_Mo_sumOf_172
        · rw [if_neg hc9] at h
          refine lv_iload hx hb d_Mo_sumOf_152 (lv_at hl 3 rfl) ?_
          refine lv_aload_n hx hb d_Mo_sumOf_154 rfl (lv_at hl 0 rfl) ?_
          refine lv_iload hx hb d_Mo_sumOf_155 (lv_at hl 4 rfl) ?_
          refine lv_iload_n hx hb d_Mo_sumOf_157 rfl (lv_at hl 2 rfl) ?_
          obtain ⟨x1, ho, h⟩ := ct_ob_some h
          refine ct_callVi C0 hw hl.1 (q0 := 35) (hR.1 35 (by decide) (by decide)) rfl (ct_giV wd_858 wd_860 sel_Mo_estimateOf wd_7 wd_861) (fun sz => s_Mo_estimateOf l g ws0 sz hR.rf ho) (nA := 2) (rm := rm_Mo_estimateOf) (by decide +kernel) rfl ⟨rfl, rfl⟩ (by decide) (by decide) (As := [.int v5, .int v3]) (rest := [.int v4]) rfl (Nat.le_of_ble_eq_true rfl) d_Mo_sumOf_158 (fun ws1 H locs hw hp => ?_)
          rw [hp] at hw
          clear hp
          refine lv_iadd hx hb d_Mo_sumOf_161 ?_
          refine lv_topi (fun x2 e9 => ?_)
          have h := ct_nm_at h e9
          clear e9
          refine lv_istore (lv' := [(4, .int x2), (0, .ref (g.2.1 35)), (1, .int a1), (3, .int v3), (5, .int v5)]) hx hb d_Mo_sumOf_162 hl (by decide) rfl (fun ls hl => ?_)
          refine lv_iinc (v := v5 + 1) (k := 4) (lv' := [(5, .int (v5 + 1)), (4, .int x2), (0, .ref (g.2.1 35)), (1, .int a1), (3, .int v3)]) hx hb d_Mo_sumOf_164 hl rfl rfl (by decide) rfl (fun ls hl => ?_)
          refine lv_goto hx hb (tgt := 129) d_Mo_sumOf_167 (by decide) ?_
          exact ih129 H locs ls s v3 x2 (v5 + 1) hw hR (lv_sub hl [2, 3, 4, 1, 0] rfl) h
  have L17 : ∀ (n17 : Nat) (H : Heap) (locs : List Loc) (ls : Array Slot) (s : MS) (v3 : Int32) (v4 : Int32) (v5 : Int32), ct_Wd g A sv ws0 H locs → ms_Rel g ws0 ws0 s → lv_has ls 7 [(0, .ref (g.2.1 35)), (1, .int a1), (3, .int v3), (4, .int v4), (5, .int v5)] → bk_Mo_sumOf_17 a1 a2 n17 s v3 v4 v5 = some res → W p l e rm_Mo_sumOf sv m args below meth c H locs 0 0 Q (F0 m 17 ls []) := by
    intro n17
    induction n17 with
    | zero =>
      intro H locs ls s v3 v4 v5 hw hR hl h
      exact absurd h (by simp [bk_Mo_sumOf_17])
    | succ n17 ih17 =>
      have J112 : ∀ (H : Heap) (locs : List Loc) (ls : Array Slot) (s : MS) (t0 : Int32) (t1 : Int32) (v3 : Int32) (v5 : Int32), ct_Wd g A sv ws0 H locs → ms_Rel g ws0 ws0 s → lv_has ls 7 [(0, .ref (g.2.1 35)), (1, .int a1), (3, .int v3), (5, .int v5)] → bk_Mo_sumOf_112 a1 a2 (bk_Mo_sumOf_17 a1 a2 n17) s t0 t1 v3 v5 = some res → W p l e rm_Mo_sumOf sv m args below meth c H locs 0 0 Q (F0 m 112 ls [.int t1, .int t0]) := by
        intro H locs ls s t0 t1 v3 v5 hw hR hl h
        unfold bk_Mo_sumOf_112 at h
        refine lv_iadd hx hb d_Mo_sumOf_112 ?_
        refine lv_topi (fun x3 e9 => ?_)
        have h := ct_nm_at h e9
        clear e9
        refine lv_istore (lv' := [(4, .int x3), (0, .ref (g.2.1 35)), (1, .int a1), (3, .int v3), (5, .int v5)]) hx hb d_Mo_sumOf_113 hl (by decide) rfl (fun ls hl => ?_)
        refine lv_iinc (v := v5 + 1) (k := 4) (lv' := [(5, .int (v5 + 1)), (4, .int x3), (0, .ref (g.2.1 35)), (1, .int a1), (3, .int v3)]) hx hb d_Mo_sumOf_115 hl rfl rfl (by decide) rfl (fun ls hl => ?_)
        refine lv_goto hx hb (tgt := 17) d_Mo_sumOf_118 (by decide) ?_
        exact ih17 H locs ls s v3 x3 (v5 + 1) hw hR (lv_sub hl [2, 3, 4, 1, 0] rfl) h
      have J92 : ∀ (H : Heap) (locs : List Loc) (ls : Array Slot) (s : MS) (t0 : Int32) (v3 : Int32) (v4 : Int32) (v5 : Int32), ct_Wd g A sv ws0 H locs → ms_Rel g ws0 ws0 s → lv_has ls 7 [(0, .ref (g.2.1 35)), (1, .int a1), (3, .int v3), (4, .int v4), (5, .int v5)] → bk_Mo_sumOf_92 a1 a2 (bk_Mo_sumOf_17 a1 a2 n17) s t0 v3 v4 v5 = some res → W p l e rm_Mo_sumOf sv m args below meth c H locs 0 0 Q (F0 m 92 ls [.int t0]) := by
        intro H locs ls s t0 v3 v4 v5 hw hR hl h
        unfold bk_Mo_sumOf_92 at h
        refine lv_istore (lv' := [(6, .int t0), (0, .ref (g.2.1 35)), (1, .int a1), (3, .int v3), (4, .int v4), (5, .int v5)]) hx hb d_Mo_sumOf_92 hl (by decide) rfl (fun ls hl => ?_)
        refine lv_iload hx hb d_Mo_sumOf_94 (lv_at hl 4 rfl) ?_
        refine lv_iload hx hb d_Mo_sumOf_96 (lv_at hl 0 rfl) ?_
        refine lv_if_eq hx hb (tgt := 111) d_Mo_sumOf_98 (by decide) (fun hc9 => ?_) (fun hc9 => ?_)
        · rw [if_pos hc9] at h
          refine lv_iconst (v := 0) hx hb d_Mo_sumOf_111 (by decide) ?_
          exact J112 H locs ls s v4 0 v3 v5 hw hR (lv_sub hl [1, 2, 3, 5] rfl) h
        · rw [if_neg hc9] at h
          refine lv_aload_n hx hb d_Mo_sumOf_101 rfl (lv_at hl 1 rfl) ?_
          refine gf_Mo_19 C0 hw hR d_Mo_sumOf_102 ?_
          refine lv_iload hx hb d_Mo_sumOf_105 (lv_at hl 5 rfl) ?_
          obtain ⟨hg107, h⟩ := ct_gd_some h
          refine ct_ldma3 C0 hw hR (ct_inR_vp hg107) d_Mo_sumOf_107 ?_
          refine lv_goto hx hb (tgt := 112) d_Mo_sumOf_108 (by decide) ?_
          exact J112 H locs ls s v4 (ms_A s 3 v5.toNatClampNeg) v3 v5 hw hR (lv_sub hl [1, 2, 3, 5] rfl) h
      intro H locs ls s v3 v4 v5 hw hR hl h
      have h : bk_Mo_sumOf_17_o a1 a2 (bk_Mo_sumOf_17 a1 a2 n17) s v3 v4 v5 = some res := h
      unfold bk_Mo_sumOf_17_o at h
      refine lv_iload hx hb d_Mo_sumOf_17 (lv_at hl 4 rfl) ?_
      refine lv_aload_n hx hb d_Mo_sumOf_19 rfl (lv_at hl 0 rfl) ?_
      refine gf_Mo_66 C0 hw hR d_Mo_sumOf_20 ?_
      refine lv_icmp_ge hx hb (tgt := 121) d_Mo_sumOf_23 (by decide) (fun hc9 => ?_) (fun hc9 => ?_)
      · rw [if_pos hc9] at h
        refine lv_iload_n hx hb d_Mo_sumOf_121 rfl (lv_at hl 1 rfl) ?_
        refine lv_aload_n hx hb d_Mo_sumOf_122 rfl (lv_at hl 0 rfl) ?_
        refine gf_Mo_39 C0 hw hR d_Mo_sumOf_123 ?_
        refine lv_imul hx hb d_Mo_sumOf_126 ?_
        refine lv_topi (fun x4 e9 => ?_)
        have h := ct_nm_at h e9
        clear e9
        refine lv_istore (lv' := [(5, .int x4), (0, .ref (g.2.1 35)), (1, .int a1), (3, .int v3), (4, .int v4)]) hx hb d_Mo_sumOf_127 hl (by decide) rfl (fun ls hl => ?_)
        exact L129 200 H locs ls s v3 v4 x4 hw hR (lv_sub hl [1, 2, 3, 4, 0] rfl) h
      · rw [if_neg hc9] at h
        refine lv_aload_n hx hb d_Mo_sumOf_26 rfl (lv_at hl 0 rfl) ?_
        refine gf_Mo_22 C0 hw hR d_Mo_sumOf_27 ?_
        refine lv_iload hx hb d_Mo_sumOf_30 (lv_at hl 4 rfl) ?_
        obtain ⟨hg32, h⟩ := ct_gd_some h
        refine ct_ldma4 C0 hw hR (ct_inR_vp hg32) d_Mo_sumOf_32 ?_
        refine lv_if_eq hx hb (tgt := 91) d_Mo_sumOf_33 (by decide) (fun hc9 => ?_) (fun hc9 => ?_)
        · rw [if_pos hc9] at h
          refine lv_iconst (v := 0) hx hb d_Mo_sumOf_91 (by decide) ?_
          exact J92 H locs ls s 0 v3 v4 v5 hw hR (lv_sub hl [0, 1, 2, 3, 4] rfl) h
        · rw [if_neg hc9] at h
          refine lv_aload_n hx hb d_Mo_sumOf_36 rfl (lv_at hl 0 rfl) ?_
          refine gf_Mo_26 C0 hw hR d_Mo_sumOf_37 ?_
          refine lv_iload hx hb d_Mo_sumOf_40 (lv_at hl 4 rfl) ?_
          obtain ⟨hg42, h⟩ := ct_gd_some h
          refine ct_ldma5 C0 hw hR (ct_inR_vp hg42) d_Mo_sumOf_42 ?_
          refine lv_if_ne hx hb (tgt := 91) d_Mo_sumOf_43 (by decide) (fun hc9 => ?_) (fun hc9 => ?_)
          · rw [if_pos hc9] at h
            refine lv_iconst (v := 0) hx hb d_Mo_sumOf_91 (by decide) ?_
            exact J92 H locs ls s 0 v3 v4 v5 hw hR (lv_sub hl [0, 1, 2, 3, 4] rfl) h
          · rw [if_neg (fun q => q hc9)] at h
            refine lv_aload_n hx hb d_Mo_sumOf_46 rfl (lv_at hl 0 rfl) ?_
            refine gf_Mo_7 C0 hw hR d_Mo_sumOf_47 ?_
            refine lv_iload hx hb d_Mo_sumOf_50 (lv_at hl 4 rfl) ?_
            obtain ⟨hg52, h⟩ := ct_gd_some h
            refine ct_ldma0 C0 hw hR (ct_inR_vp hg52) d_Mo_sumOf_52 ?_
            refine lv_aload_n hx hb d_Mo_sumOf_53 rfl (lv_at hl 0 rfl) ?_
            refine gf_Mo_80 C0 hw hR d_Mo_sumOf_54 ?_
            refine lv_icmp_ne hx hb (tgt := 91) d_Mo_sumOf_57 (by decide) (fun hc9 => ?_) (fun hc9 => ?_)
            · rw [if_pos hc9] at h
              refine lv_iconst (v := 0) hx hb d_Mo_sumOf_91 (by decide) ?_
              exact J92 H locs ls s 0 v3 v4 v5 hw hR (lv_sub hl [0, 1, 2, 3, 4] rfl) h
            · rw [if_neg (fun q => q hc9)] at h
              refine lv_aload_n hx hb d_Mo_sumOf_60 rfl (lv_at hl 0 rfl) ?_
              refine gf_Mo_13 C0 hw hR d_Mo_sumOf_61 ?_
              refine lv_iload hx hb d_Mo_sumOf_64 (lv_at hl 4 rfl) ?_
              obtain ⟨hg66, h⟩ := ct_gd_some h
              refine ct_ldma1 C0 hw hR (ct_inR_vp hg66) d_Mo_sumOf_66 ?_
              refine lv_aload_n hx hb d_Mo_sumOf_67 rfl (lv_at hl 0 rfl) ?_
              refine gf_Mo_39 C0 hw hR d_Mo_sumOf_68 ?_
              obtain ⟨hg, h⟩ := ct_gd_some h
              refine lv_idiv hx hb d_Mo_sumOf_71 (ct_gzI_ne hg) ?_
              refine lv_iload_n hx hb d_Mo_sumOf_72 rfl (lv_at hl 1 rfl) ?_
              refine lv_icmp_ne hx hb (tgt := 91) d_Mo_sumOf_73 (by decide) (fun hc9 => ?_) (fun hc9 => ?_)
              · rw [if_pos hc9] at h
                refine lv_iconst (v := 0) hx hb d_Mo_sumOf_91 (by decide) ?_
                exact J92 H locs ls s 0 v3 v4 v5 hw hR (lv_sub hl [0, 1, 2, 3, 4] rfl) h
              · rw [if_neg (fun q => q hc9)] at h
                refine lv_aload_n hx hb d_Mo_sumOf_76 rfl (lv_at hl 0 rfl) ?_
                refine gf_Mo_16 C0 hw hR d_Mo_sumOf_77 ?_
                refine lv_iload hx hb d_Mo_sumOf_80 (lv_at hl 4 rfl) ?_
                obtain ⟨hg82, h⟩ := ct_gd_some h
                refine ct_ldma2 C0 hw hR (ct_inR_vp hg82) d_Mo_sumOf_82 ?_
                refine lv_iload_n hx hb d_Mo_sumOf_83 rfl (lv_at hl 2 rfl) ?_
                refine lv_icmp_ge hx hb (tgt := 91) d_Mo_sumOf_84 (by decide) (fun hc9 => ?_) (fun hc9 => ?_)
                · rw [if_pos hc9] at h
                  refine lv_iconst (v := 0) hx hb d_Mo_sumOf_91 (by decide) ?_
                  exact J92 H locs ls s 0 v3 v4 v5 hw hR (lv_sub hl [0, 1, 2, 3, 4] rfl) h
                · rw [if_neg hc9] at h
                  refine lv_iconst (v := 1) hx hb d_Mo_sumOf_87 (by decide) ?_
                  refine lv_goto hx hb (tgt := 92) d_Mo_sumOf_88 (by decide) ?_
                  exact J92 H locs ls s 1 v3 v4 v5 hw hR (lv_sub hl [0, 1, 2, 3, 4] rfl) h
  unfold fn_Mo_sumOf at h
  refine lv_iload_n hx hb d_Mo_sumOf_0 rfl (lv_at hl 1 rfl) ?_
  refine lv_iload_n hx hb d_Mo_sumOf_1 rfl (lv_at hl 2 rfl) ?_
  refine lv_iadd hx hb d_Mo_sumOf_2 ?_
  refine lv_iconst (v := 1) hx hb d_Mo_sumOf_3 (by decide) ?_
  refine lv_iadd hx hb d_Mo_sumOf_4 ?_
  refine lv_aload_n hx hb d_Mo_sumOf_5 rfl (lv_at hl 0 rfl) ?_
  refine gf_Mo_39 C0 hw hR d_Mo_sumOf_6 ?_
  refine lv_imul hx hb d_Mo_sumOf_9 ?_
  refine lv_topi (fun x5 e9 => ?_)
  have h := ct_nm_at h e9
  clear e9
  refine lv_istore_n (lv' := [(3, .int x5), (0, .ref (g.2.1 35)), (1, .int a1), (2, .int a2)]) hx hb d_Mo_sumOf_10 rfl hl (by decide) rfl (fun ls hl => ?_)
  refine lv_iconst (v := 0) hx hb d_Mo_sumOf_11 (by decide) ?_
  refine lv_istore (lv' := [(4, .int 0), (3, .int x5), (0, .ref (g.2.1 35)), (1, .int a1), (2, .int a2)]) hx hb d_Mo_sumOf_12 hl (by decide) rfl (fun ls hl => ?_)
  refine lv_iconst (v := 0) hx hb d_Mo_sumOf_14 (by decide) ?_
  refine lv_istore (lv' := [(5, .int 0), (4, .int 0), (3, .int x5), (0, .ref (g.2.1 35)), (1, .int a1), (2, .int a2)]) hx hb d_Mo_sumOf_15 hl (by decide) rfl (fun ls hl => ?_)
  exact L17 200 H locs ls s x5 0 0 hw hR (lv_sub hl [3, 4, 2, 1, 0] rfl) h

