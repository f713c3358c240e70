theorem d_Mo_look_0 : decode c_Mo_look 0 = .ok (.iconst 0, 1) := by decide +kernel
theorem d_Mo_look_1 : decode c_Mo_look 1 = .ok (.istore_n 1, 1) := by decide +kernel
theorem d_Mo_look_2 : decode c_Mo_look 2 = .ok (.iload_n 1, 1) := by decide +kernel
theorem d_Mo_look_3 : decode c_Mo_look 3 = .ok (.aload_n 0, 1) := by decide +kernel
theorem d_Mo_look_4 : decode c_Mo_look 4 = .ok (.getfield 43, 3) := by decide +kernel
theorem d_Mo_look_7 : decode c_Mo_look 7 = .ok (.if_icmp .ge 44, 3) := by decide +kernel
theorem d_Mo_look_10 : decode c_Mo_look 10 = .ok (.iconst 0, 1) := by decide +kernel
theorem d_Mo_look_11 : decode c_Mo_look 11 = .ok (.istore_n 2, 1) := by decide +kernel
theorem d_Mo_look_12 : decode c_Mo_look 12 = .ok (.iload_n 1, 1) := by decide +kernel
theorem d_Mo_look_13 : decode c_Mo_look 13 = .ok (.iload_n 2, 1) := by decide +kernel
theorem d_Mo_look_14 : decode c_Mo_look 14 = .ok (.iadd, 1) := by decide +kernel
theorem d_Mo_look_15 : decode c_Mo_look 15 = .ok (.aload_n 0, 1) := by decide +kernel
theorem d_Mo_look_16 : decode c_Mo_look 16 = .ok (.getfield 43, 3) := by decide +kernel
theorem d_Mo_look_19 : decode c_Mo_look 19 = .ok (.if_icmp .ge 26, 3) := by decide +kernel
theorem d_Mo_look_22 : decode c_Mo_look 22 = .ok (.aload_n 0, 1) := by decide +kernel
theorem d_Mo_look_23 : decode c_Mo_look 23 = .ok (.getfield 52, 3) := by decide +kernel
theorem d_Mo_look_26 : decode c_Mo_look 26 = .ok (.bipush 6, 2) := by decide +kernel
theorem d_Mo_look_28 : decode c_Mo_look 28 = .ok (.iload_n 1, 1) := by decide +kernel
theorem d_Mo_look_29 : decode c_Mo_look 29 = .ok (.imul, 1) := by decide +kernel
theorem d_Mo_look_30 : decode c_Mo_look 30 = .ok (.iload_n 2, 1) := by decide +kernel
theorem d_Mo_look_31 : decode c_Mo_look 31 = .ok (.iadd, 1) := by decide +kernel
theorem d_Mo_look_32 : decode c_Mo_look 32 = .ok (.aload_n 0, 1) := by decide +kernel
theorem d_Mo_look_33 : decode c_Mo_look 33 = .ok (.iload_n 1, 1) := by decide +kernel
theorem d_Mo_look_34 : decode c_Mo_look 34 = .ok (.iload_n 2, 1) := by decide +kernel
theorem d_Mo_look_35 : decode c_Mo_look 35 = .ok (.invokevirtual 94, 3) := by decide +kernel
theorem d_Mo_look_38 : decode c_Mo_look 38 = .ok (.iastore, 1) := by decide +kernel
theorem d_Mo_look_39 : decode c_Mo_look 39 = .ok (.iinc 2 1, 3) := by decide +kernel
theorem d_Mo_look_42 : decode c_Mo_look 42 = .ok (.goto (-30), 3) := by decide +kernel
theorem d_Mo_look_45 : decode c_Mo_look 45 = .ok (.iinc 1 1, 3) := by decide +kernel
theorem d_Mo_look_48 : decode c_Mo_look 48 = .ok (.goto (-46), 3) := by decide +kernel
theorem d_Mo_look_51 : decode c_Mo_look 51 = .ok (.aload_n 0, 1) := by decide +kernel
theorem d_Mo_look_52 : decode c_Mo_look 52 = .ok (.iconst 0, 1) := by decide +kernel
theorem d_Mo_look_53 : decode c_Mo_look 53 = .ok (.putfield 97, 3) := by decide +kernel
theorem d_Mo_look_56 : decode c_Mo_look 56 = .ok (.return_, 1) := by decide +kernel
set_option maxHeartbeats 4000000 in
set_option maxRecDepth 100000 in
theorem s_Mo_look (l : Launch) (g : Gx) (ws0 : va_W) (sz : Nat) {s : MS} {res : MS} (hR : ms_Rel g ws0 ws0 s) (h : fn_Mo_look s = some res) : ct_MV l y_Mo_look c_Mo_look 3 none rm_Mo_look g ws0 sz [.ref (g.2.1 35)]  (fun u => ms_Rel g ws0 u res) := by
  refine ct_startv (by decide +kernel) (Nat.le_of_ble_eq_true rfl) (fun p e sv m args below meth c ls Q A H locs C0 hret hl hw => ?_)
  have hx := C0.1
  have hb := C0.2.1
  have hown := C0.2.2.2.1
  have hts := C0.2.2.2.2.1
  have hl : lv_has ls 3 [(0, .ref (g.2.1 35))] := hl
  have L2 : ∀ (n2 : Nat) (ws : va_W) (H : Heap) (locs : List Loc) (ls : Array Slot) (s : MS) (v1 : Int32), ct_Wd g A sv ws H locs → ms_Rel g ws0 ws s → lv_has ls 3 [(0, .ref (g.2.1 35)), (1, .int v1)] → bk_Mo_look_2 n2 s v1 = some res → W p l e rm_Mo_look sv m args below meth c H locs 0 0 Q (F0 m 2 ls []) := by
    intro n2
    induction n2 with
    | zero =>
      intro ws H locs ls s v1 hw hR hl h
      exact absurd h (by simp [bk_Mo_look_2])
    | succ n2 ih2 =>
      have L12 : ∀ (n12 : Nat) (ws : va_W) (H : Heap) (locs : List Loc) (ls : Array Slot) (s : MS) (v1 : Int32) (v2 : Int32), ct_Wd g A sv ws H locs → ms_Rel g ws0 ws s → lv_has ls 3 [(0, .ref (g.2.1 35)), (1, .int v1), (2, .int v2)] → bk_Mo_look_12 (bk_Mo_look_2 n2) n12 s v1 v2 = some res → W p l e rm_Mo_look sv m args below meth c H locs 0 0 Q (F0 m 12 ls []) := by
        intro n12
        induction n12 with
        | zero =>
          intro ws H locs ls s v1 v2 hw hR hl h
          exact absurd h (by simp [bk_Mo_look_12])
        | succ n12 ih12 =>
          intro ws H locs ls s v1 v2 hw hR hl h
          have h : bk_Mo_look_12_o (bk_Mo_look_2 n2) (bk_Mo_look_12 (bk_Mo_look_2 n2) n12) s v1 v2 = some res := h
          unfold bk_Mo_look_12_o at h
          refine lv_iload_n hx hb d_Mo_look_12 rfl (lv_at hl 1 rfl) ?_
          refine lv_iload_n hx hb d_Mo_look_13 rfl (lv_at hl 2 rfl) ?_
          refine lv_iadd hx hb d_Mo_look_14 ?_
          refine lv_aload_n hx hb d_Mo_look_15 rfl (lv_at hl 0 rfl) ?_
          refine gf_Mo_43 C0 hw hR d_Mo_look_16 ?_
          refine lv_icmp_ge hx hb (tgt := 45) d_Mo_look_19 (by decide) (fun hc9 => ?_) (fun hc9 => ?_)
          · rw [if_pos hc9] at h
            refine lv_iinc (v := v1 + 1) (k := 1) (lv' := [(1, .int (v1 + 1)), (0, .ref (g.2.1 35)), (2, .int v2)]) hx hb d_Mo_look_45 hl rfl rfl (by decide) rfl (fun ls hl => ?_)
            refine lv_goto hx hb (tgt := 2) d_Mo_look_48 (by decide) ?_
            exact ih2 ws H locs ls s (v1 + 1) hw hR (lv_sub hl [1, 0] rfl) h
          · rw [if_neg hc9] at h
            refine lv_aload_n hx hb d_Mo_look_22 rfl (lv_at hl 0 rfl) ?_
            refine gf_Mo_52 C0 hw hR d_Mo_look_23 ?_
            refine lv_bipush (v := 6) hx hb d_Mo_look_26 (by decide) ?_
            refine lv_iload_n hx hb d_Mo_look_28 rfl (lv_at hl 1 rfl) ?_
            refine lv_imul hx hb d_Mo_look_29 ?_
            refine lv_iload_n hx hb d_Mo_look_30 rfl (lv_at hl 2 rfl) ?_
            refine lv_iadd hx hb d_Mo_look_31 ?_
            refine lv_aload_n hx hb d_Mo_look_32 rfl (lv_at hl 0 rfl) ?_
            refine lv_iload_n hx hb d_Mo_look_33 rfl (lv_at hl 1 rfl) ?_
            refine lv_iload_n hx hb d_Mo_look_34 rfl (lv_at hl 2 rfl) ?_
            obtain ⟨x1, ho, h⟩ := ct_ob_some h
            refine ct_callVi C0 hw hl.1 (q0 := 35) (hR.1 35 (by decide) (by decide)) rfl (ct_giV wd_854 wd_856 sel_Mo_sumOf wd_7 wd_857) (fun sz => s_Mo_sumOf l g ws sz hR.rf ho) (nA := 2) (rm := rm_Mo_sumOf) (by decide +kernel) rfl ⟨rfl, rfl⟩ (by decide) (by decide) (As := [.int v1, .int v2]) (rest := [.int ((6 * v1) + v2), .ref (g.2.1 46)]) rfl (Nat.le_of_ble_eq_true rfl) d_Mo_look_35 (fun ws1 H locs hw hp => ?_)
            rw [hp] at hw
            clear hp
            obtain ⟨hg38, h⟩ := ct_gd_some h
            refine ct_stma8 C0 hw hR (ct_inR_vp hg38) d_Mo_look_38 (fun ws H locs hw hR => ?_)
            obtain ⟨s2, es9, h⟩ := ct_nm_ex h
            rw [← es9] at hR
            clear es9
            refine lv_iinc (v := v2 + 1) (k := 2) (lv' := [(2, .int (v2 + 1)), (0, .ref (g.2.1 35)), (1, .int v1)]) hx hb d_Mo_look_39 hl rfl rfl (by decide) rfl (fun ls hl => ?_)
            refine lv_goto hx hb (tgt := 12) d_Mo_look_42 (by decide) ?_
            exact ih12 ws H locs ls s2 v1 (v2 + 1) hw hR (lv_sub hl [1, 2, 0] rfl) h
      intro ws H locs ls s v1 hw hR hl h
      have h : bk_Mo_look_2_o (bk_Mo_look_2 n2) s v1 = some res := h
      unfold bk_Mo_look_2_o at h
      refine lv_iload_n hx hb d_Mo_look_2 rfl (lv_at hl 1 rfl) ?_
      refine lv_aload_n hx hb d_Mo_look_3 rfl (lv_at hl 0 rfl) ?_
      refine gf_Mo_43 C0 hw hR d_Mo_look_4 ?_
      refine lv_icmp_ge hx hb (tgt := 51) d_Mo_look_7 (by decide) (fun hc9 => ?_) (fun hc9 => ?_)
      · rw [if_pos hc9] at h
        refine lv_aload_n hx hb d_Mo_look_51 rfl (lv_at hl 0 rfl) ?_
        refine lv_iconst (v := 0) hx hb d_Mo_look_52 (by decide) ?_
        refine pf_Mo_97 C0 hw hR (by decide) d_Mo_look_53 (fun ws H locs hw hR => ?_)
        obtain ⟨s3, es9, h⟩ := ct_nm_ex h
        rw [← es9] at hR
        clear es9
        obtain rfl := Option.some.inj h
        exact hret hw hR d_Mo_look_56
      · rw [if_neg hc9] at h
        refine lv_iconst (v := 0) hx hb d_Mo_look_10 (by decide) ?_
        refine lv_istore_n (lv' := [(2, .int 0), (0, .ref (g.2.1 35)), (1, .int v1)]) hx hb d_Mo_look_11 rfl hl (by decide) rfl (fun ls hl => ?_)
        exact L12 200 ws H locs ls s v1 0 hw hR (lv_sub hl [1, 2, 0] rfl) h
  unfold fn_Mo_look at h
  obtain ⟨ws, hwe⟩ : ∃ z : va_W, z = ws0 := ⟨_, rfl⟩
  rw [← hwe] at hw
  have hR : ms_Rel g ws0 ws s := by rw [hwe]; exact hR
  clear hwe
  refine lv_iconst (v := 0) hx hb d_Mo_look_0 (by decide) ?_
  refine lv_istore_n (lv' := [(1, .int 0), (0, .ref (g.2.1 35))]) hx hb d_Mo_look_1 rfl hl (by decide) rfl (fun ls hl => ?_)
  exact L2 200 ws H locs ls s 0 hw hR (lv_sub hl [1, 0] rfl) h

theorem d_Mo_left_0 : decode c_Mo_left 0 = .ok (.aload_n 0, 1) := by decide +kernel
theorem d_Mo_left_1 : decode c_Mo_left 1 = .ok (.getfield 43, 3) := by decide +kernel
theorem d_Mo_left_4 : decode c_Mo_left 4 = .ok (.aload_n 0, 1) := by decide +kernel
theorem d_Mo_left_5 : decode c_Mo_left 5 = .ok (.getfield 87, 3) := by decide +kernel
theorem d_Mo_left_8 : decode c_Mo_left 8 = .ok (.isub, 1) := by decide +kernel
theorem d_Mo_left_9 : decode c_Mo_left 9 = .ok (.ireturn, 1) := by decide +kernel
set_option maxHeartbeats 4000000 in
set_option maxRecDepth 100000 in
theorem s_Mo_left (l : Launch) (g : Gx) (ws0 : va_W) (sz : Nat) {s : MS} {res : Int32} (hR : ms_Rel g ws0 ws0 s) (h : fn_Mo_left s = some res) : ct_MI l y_Mo_left c_Mo_left 1 (some .int) rm_Mo_left g ws0 sz [.ref (g.2.1 35)] res (fun u => u = ws0) := by
  refine ct_starti (by decide +kernel) (Nat.le_of_ble_eq_true rfl) (fun p e sv m args below meth c ls Q A H locs C0 hret hl hw => ?_)
  have hx := C0.1
  have hb := C0.2.1
  have hown := C0.2.2.2.1
  have hts := C0.2.2.2.2.1
  have hl : lv_has ls 1 [(0, .ref (g.2.1 35))] := hl
  unfold fn_Mo_left at h
  refine lv_aload_n hx hb d_Mo_left_0 rfl (lv_at hl 0 rfl) ?_
  refine gf_Mo_43 C0 hw hR d_Mo_left_1 ?_
  refine lv_aload_n hx hb d_Mo_left_4 rfl (lv_at hl 0 rfl) ?_
  refine gf_Mo_87 C0 hw hR d_Mo_left_5 ?_
  refine lv_isub hx hb d_Mo_left_8 ?_
  obtain rfl := Option.some.inj h
  exact hret hw rfl d_Mo_left_9

theorem d_Mo_noCell_0 : decode c_Mo_noCell 0 = .ok (.iload_n 1, 1) := by decide +kernel
theorem d_Mo_noCell_1 : decode c_Mo_noCell 1 = .ok (.ifCond .lt 24, 3) := by decide +kernel
theorem d_Mo_noCell_4 : decode c_Mo_noCell 4 = .ok (.iload_n 2, 1) := by decide +kernel
theorem d_Mo_noCell_5 : decode c_Mo_noCell 5 = .ok (.ifCond .lt 20, 3) := by decide +kernel
theorem d_Mo_noCell_8 : decode c_Mo_noCell 8 = .ok (.iload_n 1, 1) := by decide +kernel
theorem d_Mo_noCell_9 : decode c_Mo_noCell 9 = .ok (.iload_n 3, 1) := by decide +kernel
theorem d_Mo_noCell_10 : decode c_Mo_noCell 10 = .ok (.if_icmp .ge 15, 3) := by decide +kernel
theorem d_Mo_noCell_13 : decode c_Mo_noCell 13 = .ok (.iload_n 2, 1) := by decide +kernel
theorem d_Mo_noCell_14 : decode c_Mo_noCell 14 = .ok (.iload_n 3, 1) := by decide +kernel
theorem d_Mo_noCell_15 : decode c_Mo_noCell 15 = .ok (.if_icmp .ge 10, 3) := by decide +kernel
theorem d_Mo_noCell_18 : decode c_Mo_noCell 18 = .ok (.iload_n 1, 1) := by decide +kernel
theorem d_Mo_noCell_19 : decode c_Mo_noCell 19 = .ok (.iload_n 2, 1) := by decide +kernel
theorem d_Mo_noCell_20 : decode c_Mo_noCell 20 = .ok (.iadd, 1) := by decide +kernel
theorem d_Mo_noCell_21 : decode c_Mo_noCell 21 = .ok (.iload_n 3, 1) := by decide +kernel
theorem d_Mo_noCell_22 : decode c_Mo_noCell 22 = .ok (.if_icmp .lt 7, 3) := by decide +kernel
theorem d_Mo_noCell_25 : decode c_Mo_noCell 25 = .ok (.iconst 1, 1) := by decide +kernel
theorem d_Mo_noCell_26 : decode c_Mo_noCell 26 = .ok (.goto 4, 3) := by decide +kernel
theorem d_Mo_noCell_29 : decode c_Mo_noCell 29 = .ok (.iconst 0, 1) := by decide +kernel
theorem d_Mo_noCell_30 : decode c_Mo_noCell 30 = .ok (.ireturn, 1) := by decide +kernel
set_option maxHeartbeats 4000000 in
set_option maxRecDepth 100000 in
theorem s_Mo_noCell (l : Launch) (g : Gx) (ws0 : va_W) (sz : Nat) {a1 : Int32} {a2 : Int32} {a3 : Int32} {res : Int32} (h : fn_Mo_noCell a1 a2 a3 = some res) : ct_MI l y_Mo_noCell c_Mo_noCell 4 (some .boolean) rm_Mo_noCell g ws0 sz [.ref (g.2.1 35), .int a1, .int a2, .int a3] res (fun u => u = ws0) := by
  refine ct_startz (by decide +kernel) (Nat.le_of_ble_eq_true rfl) (fun p e sv m args below meth c ls Q A H locs C0 hret hl hw => ?_)
  have hx := C0.1
  have hb := C0.2.1
  have hown := C0.2.2.2.1
  have hts := C0.2.2.2.2.1
  have hl : lv_has ls 4 [(0, .ref (g.2.1 35)), (1, .int a1), (2, .int a2), (3, .int a3)] := hl
  unfold fn_Mo_noCell at h
  refine lv_iload_n hx hb d_Mo_noCell_0 rfl (lv_at hl 1 rfl) ?_
  refine lv_if_lt hx hb (tgt := 25) d_Mo_noCell_1 (by decide) (fun hc9 => ?_) (fun hc9 => ?_)
  · rw [if_pos hc9] at h
    refine lv_iconst (v := 1) hx hb d_Mo_noCell_25 (by decide) ?_
    refine lv_goto hx hb (tgt := 30) d_Mo_noCell_26 (by decide) ?_
    have hz : ct_isB 1 = true := by decide
    obtain rfl := Option.some.inj h
    exact hret hz hw rfl d_Mo_noCell_30
  · rw [if_neg hc9] at h
    refine lv_iload_n hx hb d_Mo_noCell_4 rfl (lv_at hl 2 rfl) ?_
    refine lv_if_lt hx hb (tgt := 25) d_Mo_noCell_5 (by decide) (fun hc9 => ?_) (fun hc9 => ?_)
    · rw [if_pos hc9] at h
      refine lv_iconst (v := 1) hx hb d_Mo_noCell_25 (by decide) ?_
      refine lv_goto hx hb (tgt := 30) d_Mo_noCell_26 (by decide) ?_
      have hz : ct_isB 1 = true := by decide
      obtain rfl := Option.some.inj h
      exact hret hz hw rfl d_Mo_noCell_30
    · rw [if_neg hc9] at h
      refine lv_iload_n hx hb d_Mo_noCell_8 rfl (lv_at hl 1 rfl) ?_
      refine lv_iload_n hx hb d_Mo_noCell_9 rfl (lv_at hl 3 rfl) ?_
      refine lv_icmp_ge hx hb (tgt := 25) d_Mo_noCell_10 (by decide) (fun hc9 => ?_) (fun hc9 => ?_)
      · rw [if_pos hc9] at h
        refine lv_iconst (v := 1) hx hb d_Mo_noCell_25 (by decide) ?_
        refine lv_goto hx hb (tgt := 30) d_Mo_noCell_26 (by decide) ?_
        have hz : ct_isB 1 = true := by decide
        obtain rfl := Option.some.inj h
        exact hret hz hw rfl d_Mo_noCell_30
      · rw [if_neg hc9] at h
        refine lv_iload_n hx hb d_Mo_noCell_13 rfl (lv_at hl 2 rfl) ?_
        refine lv_iload_n hx hb d_Mo_noCell_14 rfl (lv_at hl 3 rfl) ?_
        refine lv_icmp_ge hx hb (tgt := 25) d_Mo_noCell_15 (by decide) (fun hc9 => ?_) (fun hc9 => ?_)
        · rw [if_pos hc9] at h
          refine lv_iconst (v := 1) hx hb d_Mo_noCell_25 (by decide) ?_
          refine lv_goto hx hb (tgt := 30) d_Mo_noCell_26 (by decide) ?_
          have hz : ct_isB 1 = true := by decide
          obtain rfl := Option.some.inj h
          exact hret hz hw rfl d_Mo_noCell_30
        · rw [if_neg hc9] at h
          refine lv_iload_n hx hb d_Mo_noCell_18 rfl (lv_at hl 1 rfl) ?_
          refine lv_iload_n hx hb d_Mo_noCell_19 rfl (lv_at hl 2 rfl) ?_
          refine lv_iadd hx hb d_Mo_noCell_20 ?_
          refine lv_iload_n hx hb d_Mo_noCell_21 rfl (lv_at hl 3 rfl) ?_
          refine lv_icmp_lt hx hb (tgt := 29) d_Mo_noCell_22 (by decide) (fun hc9 => ?_) (fun hc9 => ?_)
          · rw [if_pos hc9] at h
            refine lv_iconst (v := 0) hx hb d_Mo_noCell_29 (by decide) ?_
            have hz : ct_isB 0 = true := by decide
            obtain rfl := Option.some.inj h
            exact hret hz hw rfl d_Mo_noCell_30
          · rw [if_neg hc9] at h
            refine lv_iconst (v := 1) hx hb d_Mo_noCell_25 (by decide) ?_
            refine lv_goto hx hb (tgt := 30) d_Mo_noCell_26 (by decide) ?_
            have hz : ct_isB 1 = true := by decide
            obtain rfl := Option.some.inj h
            exact hret hz hw rfl d_Mo_noCell_30

theorem d_Mo_cell_0 : decode c_Mo_cell 0 = .ok (.aload_n 0, 1) := by decide +kernel
theorem d_Mo_cell_1 : decode c_Mo_cell 1 = .ok (.aload_n 0, 1) := by decide +kernel
theorem d_Mo_cell_2 : decode c_Mo_cell 2 = .ok (.iload_n 1, 1) := by decide +kernel
theorem d_Mo_cell_3 : decode c_Mo_cell 3 = .ok (.iload_n 2, 1) := by decide +kernel
theorem d_Mo_cell_4 : decode c_Mo_cell 4 = .ok (.aload_n 0, 1) := by decide +kernel
theorem d_Mo_cell_5 : decode c_Mo_cell 5 = .ok (.invokevirtual 100, 3) := by decide +kernel
theorem d_Mo_cell_8 : decode c_Mo_cell 8 = .ok (.invokevirtual 104, 3) := by decide +kernel
theorem d_Mo_cell_11 : decode c_Mo_cell 11 = .ok (.ifCond .eq 7, 3) := by decide +kernel
theorem d_Mo_cell_14 : decode c_Mo_cell 14 = .ok (.iconst 1, 1) := by decide +kernel
theorem d_Mo_cell_15 : decode c_Mo_cell 15 = .ok (.goto 4, 3) := by decide +kernel
theorem d_Mo_cell_18 : decode c_Mo_cell 18 = .ok (.iconst 0, 1) := by decide +kernel
theorem d_Mo_cell_19 : decode c_Mo_cell 19 = .ok (.putfield 55, 3) := by decide +kernel
theorem d_Mo_cell_22 : decode c_Mo_cell 22 = .ok (.aload_n 0, 1) := by decide +kernel
theorem d_Mo_cell_23 : decode c_Mo_cell 23 = .ok (.getfield 55, 3) := by decide +kernel
theorem d_Mo_cell_26 : decode c_Mo_cell 26 = .ok (.ifCond .ne 12, 3) := by decide +kernel
theorem d_Mo_cell_29 : decode c_Mo_cell 29 = .ok (.aload_n 0, 1) := by decide +kernel
theorem d_Mo_cell_30 : decode c_Mo_cell 30 = .ok (.iload_n 1, 1) := by decide +kernel
theorem d_Mo_cell_31 : decode c_Mo_cell 31 = .ok (.iload_n 2, 1) := by decide +kernel
theorem d_Mo_cell_32 : decode c_Mo_cell 32 = .ok (.invokevirtual 94, 3) := by decide +kernel
theorem d_Mo_cell_35 : decode c_Mo_cell 35 = .ok (.goto 4, 3) := by decide +kernel
theorem d_Mo_cell_38 : decode c_Mo_cell 38 = .ok (.iconst 0, 1) := by decide +kernel
theorem d_Mo_cell_39 : decode c_Mo_cell 39 = .ok (.ireturn, 1) := by decide +kernel
set_option maxHeartbeats 4000000 in
set_option maxRecDepth 100000 in
theorem s_Mo_cell (l : Launch) (g : Gx) (ws0 : va_W) (sz : Nat) {s : MS} {a1 : Int32} {a2 : Int32} {res : (Int32 × MS)} (hR : ms_Rel g ws0 ws0 s) (h : fn_Mo_cell s a1 a2 = some res) : ct_MI l y_Mo_cell c_Mo_cell 3 (some .int) rm_Mo_cell g ws0 sz [.ref (g.2.1 35), .int a1, .int a2] res.1 (fun u => ms_Rel g ws0 u res.2) := by
  refine ct_starti (by decide +kernel) (Nat.le_of_ble_eq_true rfl) (fun p e sv m args below meth c ls Q A H locs C0 hret hl hw => ?_)
  have hx := C0.1
  have hb := C0.2.1
  have hown := C0.2.2.2.1
  have hts := C0.2.2.2.2.1
  have hl : lv_has ls 3 [(0, .ref (g.2.1 35)), (1, .int a1), (2, .int a2)] := hl
  have J19 : ∀ (ws : va_W) (H : Heap) (locs : List Loc) (ls : Array Slot) (s : MS) (t1 : Int32), ct_Wd g A sv ws H locs → ms_Rel g ws0 ws s → lv_has ls 3 [(0, .ref (g.2.1 35)), (1, .int a1), (2, .int a2)] → bk_Mo_cell_19 a1 a2 s t1 = some res → W p l e rm_Mo_cell sv m args below meth c H locs 0 0 Q (F0 m 19 ls [.int t1, .ref (g.2.1 35)]) := by
    intro ws H locs ls s t1 hw hR hl h
    unfold bk_Mo_cell_19 at h
    refine pf_Mo_55 C0 hw hR d_Mo_cell_19 (fun ws H locs hw hR => ?_)
    obtain ⟨s1, es9, h⟩ := ct_nm_ex h
    rw [← es9] at hR
    clear es9
    refine lv_aload_n hx hb d_Mo_cell_22 rfl (lv_at hl 0 rfl) ?_
    refine gf_Mo_55 C0 hw hR d_Mo_cell_23 ?_
    refine lv_if_ne hx hb (tgt := 38) d_Mo_cell_26 (by decide) (fun hc9 => ?_) (fun hc9 => ?_)
    · rw [if_pos hc9] at h
      refine lv_iconst (v := 0) hx hb d_Mo_cell_38 (by decide) ?_
      obtain rfl := Option.some.inj h
      exact hret hw hR d_Mo_cell_39
    · rw [if_neg (fun q => q hc9)] at h
      refine lv_aload_n hx hb d_Mo_cell_29 rfl (lv_at hl 0 rfl) ?_
      refine lv_iload_n hx hb d_Mo_cell_30 rfl (lv_at hl 1 rfl) ?_
      refine lv_iload_n hx hb d_Mo_cell_31 rfl (lv_at hl 2 rfl) ?_
      obtain ⟨x2, ho, h⟩ := ct_ob_some h
      refine ct_callVi C0 hw hl.1 (q0 := 35) (hR.1 35 (by decide) (by decide)) rfl (ct_giV wd_854 wd_856 sel_Mo_sumOf wd_7 wd_857) (fun sz => s_Mo_sumOf l g ws sz hR.rf ho) (nA := 2) (rm := rm_Mo_sumOf) (by decide +kernel) rfl ⟨rfl, rfl⟩ (by decide) (by decide) (As := [.int a1, .int a2]) (rest := []) rfl (Nat.le_of_ble_eq_true rfl) d_Mo_cell_32 (fun ws1 H locs hw hp => ?_)
      rw [hp] at hw
      clear hp
      refine lv_goto hx hb (tgt := 39) d_Mo_cell_35 (by decide) ?_
      obtain rfl := Option.some.inj h
      exact hret hw hR d_Mo_cell_39
  unfold fn_Mo_cell at h
  obtain ⟨ws, hwe⟩ : ∃ z : va_W, z = ws0 := ⟨_, rfl⟩
  rw [← hwe] at hw
  have hR : ms_Rel g ws0 ws s := by rw [hwe]; exact hR
  clear hwe
  refine lv_aload_n hx hb d_Mo_cell_0 rfl (lv_at hl 0 rfl) ?_
  refine lv_aload_n hx hb d_Mo_cell_1 rfl (lv_at hl 0 rfl) ?_
  refine lv_iload_n hx hb d_Mo_cell_2 rfl (lv_at hl 1 rfl) ?_
  refine lv_iload_n hx hb d_Mo_cell_3 rfl (lv_at hl 2 rfl) ?_
  refine lv_aload_n hx hb d_Mo_cell_4 rfl (lv_at hl 0 rfl) ?_
  obtain ⟨x3, ho, h⟩ := ct_ob_some h
  refine ct_callVi C0 hw hl.1 (q0 := 35) (hR.1 35 (by decide) (by decide)) rfl (ct_giV wd_846 wd_848 sel_Mo_left wd_7 wd_849) (fun sz => s_Mo_left l g ws sz hR.rf ho) (nA := 0) (rm := rm_Mo_left) (by decide +kernel) rfl ⟨rfl, rfl⟩ (by decide) (by decide) (As := []) (rest := [.int a2, .int a1, .ref (g.2.1 35), .ref (g.2.1 35)]) rfl (Nat.le_of_ble_eq_true rfl) d_Mo_cell_5 (fun ws1 H locs hw hp => ?_)
  rw [hp] at hw
  clear hp
  obtain ⟨x4, ho, h⟩ := ct_ob_some h
  refine ct_callVi C0 hw hl.1 (q0 := 35) (hR.1 35 (by decide) (by decide)) rfl (ct_giV wd_850 wd_852 sel_Mo_noCell wd_7 wd_853) (fun sz => s_Mo_noCell l g ws sz ho) (nA := 3) (rm := rm_Mo_noCell) (by decide +kernel) rfl ⟨rfl, rfl⟩ (by decide) (by decide) (As := [.int a1, .int a2, .int x3]) (rest := [.ref (g.2.1 35)]) rfl (Nat.le_of_ble_eq_true rfl) d_Mo_cell_8 (fun ws1 H locs hw hp => ?_)
  rw [hp] at hw
  clear hp
  refine lv_if_eq hx hb (tgt := 18) d_Mo_cell_11 (by decide) (fun hc9 => ?_) (fun hc9 => ?_)
  · rw [if_pos hc9] at h
    refine lv_iconst (v := 0) hx hb d_Mo_cell_18 (by decide) ?_
    exact J19 ws H locs ls s 0 hw hR (lv_sub hl [0, 1, 2] rfl) h
  · rw [if_neg hc9] at h
    refine lv_iconst (v := 1) hx hb d_Mo_cell_14 (by decide) ?_
    refine lv_goto hx hb (tgt := 19) d_Mo_cell_15 (by decide) ?_
    exact J19 ws H locs ls s 1 hw hR (lv_sub hl [0, 1, 2] rfl) h

theorem d_Mo_leave_0 : decode c_Mo_leave 0 = .ok (.aload_n 0, 1) := by decide +kernel
theorem d_Mo_leave_1 : decode c_Mo_leave 1 = .ok (.aload_n 0, 1) := by decide +kernel
theorem d_Mo_leave_2 : decode c_Mo_leave 2 = .ok (.iload_n 1, 1) := by decide +kernel
theorem d_Mo_leave_3 : decode c_Mo_leave 3 = .ok (.iload_n 2, 1) := by decide +kernel
theorem d_Mo_leave_4 : decode c_Mo_leave 4 = .ok (.aload_n 0, 1) := by decide +kernel
theorem d_Mo_leave_5 : decode c_Mo_leave 5 = .ok (.getfield 43, 3) := by decide +kernel
theorem d_Mo_leave_8 : decode c_Mo_leave 8 = .ok (.invokevirtual 104, 3) := by decide +kernel
theorem d_Mo_leave_11 : decode c_Mo_leave 11 = .ok (.ifCond .eq 7, 3) := by decide +kernel
theorem d_Mo_leave_14 : decode c_Mo_leave 14 = .ok (.iconst 1, 1) := by decide +kernel
theorem d_Mo_leave_15 : decode c_Mo_leave 15 = .ok (.goto 4, 3) := by decide +kernel
theorem d_Mo_leave_18 : decode c_Mo_leave 18 = .ok (.iconst 0, 1) := by decide +kernel
theorem d_Mo_leave_19 : decode c_Mo_leave 19 = .ok (.putfield 55, 3) := by decide +kernel
theorem d_Mo_leave_22 : decode c_Mo_leave 22 = .ok (.aload_n 0, 1) := by decide +kernel
theorem d_Mo_leave_23 : decode c_Mo_leave 23 = .ok (.getfield 55, 3) := by decide +kernel
theorem d_Mo_leave_26 : decode c_Mo_leave 26 = .ok (.ifCond .eq 5, 3) := by decide +kernel
theorem d_Mo_leave_29 : decode c_Mo_leave 29 = .ok (.iconst 0, 1) := by decide +kernel
theorem d_Mo_leave_30 : decode c_Mo_leave 30 = .ok (.ireturn, 1) := by decide +kernel
theorem d_Mo_leave_31 : decode c_Mo_leave 31 = .ok (.aload_n 0, 1) := by decide +kernel
theorem d_Mo_leave_32 : decode c_Mo_leave 32 = .ok (.getfield 49, 3) := by decide +kernel
theorem d_Mo_leave_35 : decode c_Mo_leave 35 = .ok (.bipush 6, 2) := by decide +kernel
theorem d_Mo_leave_37 : decode c_Mo_leave 37 = .ok (.iload_n 1, 1) := by decide +kernel
theorem d_Mo_leave_38 : decode c_Mo_leave 38 = .ok (.imul, 1) := by decide +kernel
theorem d_Mo_leave_39 : decode c_Mo_leave 39 = .ok (.iload_n 2, 1) := by decide +kernel
theorem d_Mo_leave_40 : decode c_Mo_leave 40 = .ok (.iadd, 1) := by decide +kernel
theorem d_Mo_leave_41 : decode c_Mo_leave 41 = .ok (.iload_n 3, 1) := by decide +kernel
theorem d_Mo_leave_42 : decode c_Mo_leave 42 = .ok (.bastore, 1) := by decide +kernel
theorem d_Mo_leave_43 : decode c_Mo_leave 43 = .ok (.iconst 0, 1) := by decide +kernel
theorem d_Mo_leave_44 : decode c_Mo_leave 44 = .ok (.istore 4, 2) := by decide +kernel
theorem d_Mo_leave_46 : decode c_Mo_leave 46 = .ok (.iconst 0, 1) := by decide +kernel
theorem d_Mo_leave_47 : decode c_Mo_leave 47 = .ok (.istore 5, 2) := by decide +kernel
theorem d_Mo_leave_49 : decode c_Mo_leave 49 = .ok (.iload 5, 2) := by decide +kernel
theorem d_Mo_leave_51 : decode c_Mo_leave 51 = .ok (.bipush 36, 2) := by decide +kernel
theorem d_Mo_leave_53 : decode c_Mo_leave 53 = .ok (.if_icmp .ge 29, 3) := by decide +kernel
theorem d_Mo_leave_56 : decode c_Mo_leave 56 = .ok (.iload 4, 2) := by decide +kernel
theorem d_Mo_leave_58 : decode c_Mo_leave 58 = .ok (.aload_n 0, 1) := by decide +kernel
theorem d_Mo_leave_59 : decode c_Mo_leave 59 = .ok (.getfield 49, 3) := by decide +kernel
theorem d_Mo_leave_62 : decode c_Mo_leave 62 = .ok (.iload 5, 2) := by decide +kernel
theorem d_Mo_leave_64 : decode c_Mo_leave 64 = .ok (.baload, 1) := by decide +kernel
theorem d_Mo_leave_65 : decode c_Mo_leave 65 = .ok (.ifCond .eq 7, 3) := by decide +kernel
theorem d_Mo_leave_68 : decode c_Mo_leave 68 = .ok (.iconst 1, 1) := by decide +kernel
theorem d_Mo_leave_69 : decode c_Mo_leave 69 = .ok (.goto 4, 3) := by decide +kernel
theorem d_Mo_leave_72 : decode c_Mo_leave 72 = .ok (.iconst 0, 1) := by decide +kernel
theorem d_Mo_leave_73 : decode c_Mo_leave 73 = .ok (.iadd, 1) := by decide +kernel
theorem d_Mo_leave_74 : decode c_Mo_leave 74 = .ok (.istore 4, 2) := by decide +kernel
theorem d_Mo_leave_76 : decode c_Mo_leave 76 = .ok (.iinc 5 1, 3) := by decide +kernel
theorem d_Mo_leave_79 : decode c_Mo_leave 79 = .ok (.goto (-30), 3) := by decide +kernel
theorem d_Mo_leave_82 : decode c_Mo_leave 82 = .ok (.iload 4, 2) := by decide +kernel
theorem d_Mo_leave_84 : decode c_Mo_leave 84 = .ok (.ireturn, 1) := by decide +kernel
set_option maxHeartbeats 4000000 in
set_option maxRecDepth 100000 in
theorem s_Mo_leave (l : Launch) (g : Gx) (ws0 : va_W) (sz : Nat) {s : MS} {a1 : Int32} {a2 : Int32} {a3 : Int32} {res : (Int32 × MS)} (hR : ms_Rel g ws0 ws0 s) (h : fn_Mo_leave s a1 a2 a3 = some res) : ct_MI l y_Mo_leave c_Mo_leave 6 (some .int) rm_Mo_leave g ws0 sz [.ref (g.2.1 35), .int a1, .int a2, .int a3] res.1 (fun u => ms_Rel g ws0 u res.2) := by
  refine ct_starti (by decide +kernel) (Nat.le_of_ble_eq_true rfl) (fun p e sv m args below meth c ls Q A H locs C0 hret hl hw => ?_)
  have hx := C0.1
  have hb := C0.2.1
  have hown := C0.2.2.2.1
  have hts := C0.2.2.2.2.1
  have hl : lv_has ls 6 [(0, .ref (g.2.1 35)), (1, .int a1), (2, .int a2), (3, .int a3)] := hl
  have L49 : ∀ (n49 : Nat) (ws : va_W) (H : Heap) (locs : List Loc) (ls : Array Slot) (s : MS) (v4 : Int32) (v5 : Int32), ct_Wd g A sv ws H locs → ms_Rel g ws0 ws s → lv_has ls 6 [(0, .ref (g.2.1 35)), (4, .int v4), (5, .int v5)] → bk_Mo_leave_49 a1 a2 a3 n49 s v4 v5 = some res → W p l e rm_Mo_leave sv m args below meth c H locs 0 0 Q (F0 m 49 ls []) := by
    intro n49
    induction n49 with
    | zero =>
      intro ws H locs ls s v4 v5 hw hR hl h
      exact absurd h (by simp [bk_Mo_leave_49])
    | succ n49 ih49 =>
      have J73 : ∀ (ws : va_W) (H : Heap) (locs : List Loc) (ls : Array Slot) (s : MS) (t0 : Int32) (t1 : Int32) (v5 : Int32), ct_Wd g A sv ws H locs → ms_Rel g ws0 ws s → lv_has ls 6 [(0, .ref (g.2.1 35)), (5, .int v5)] → bk_Mo_leave_73 a1 a2 a3 (bk_Mo_leave_49 a1 a2 a3 n49) s t0 t1 v5 = some res → W p l e rm_Mo_leave sv m args below meth c H locs 0 0 Q (F0 m 73 ls [.int t1, .int t0]) := by
        intro ws H locs ls s t0 t1 v5 hw hR hl h
        unfold bk_Mo_leave_73 at h
        refine lv_iadd hx hb d_Mo_leave_73 ?_
        refine lv_topi (fun x1 e9 => ?_)
        have h := ct_nm_at h e9
        clear e9
        refine lv_istore (lv' := [(4, .int x1), (0, .ref (g.2.1 35)), (5, .int v5)]) hx hb d_Mo_leave_74 hl (by decide) rfl (fun ls hl => ?_)
        refine lv_iinc (v := v5 + 1) (k := 2) (lv' := [(5, .int (v5 + 1)), (4, .int x1), (0, .ref (g.2.1 35))]) hx hb d_Mo_leave_76 hl rfl rfl (by decide) rfl (fun ls hl => ?_)
        refine lv_goto hx hb (tgt := 49) d_Mo_leave_79 (by decide) ?_
        exact ih49 ws H locs ls s x1 (v5 + 1) hw hR (lv_sub hl [2, 1, 0] rfl) h
      intro ws H locs ls s v4 v5 hw hR hl h
      have h : bk_Mo_leave_49_o a1 a2 a3 (bk_Mo_leave_49 a1 a2 a3 n49) s v4 v5 = some res := h
      unfold bk_Mo_leave_49_o at h
      refine lv_iload hx hb d_Mo_leave_49 (lv_at hl 2 rfl) ?_
      refine lv_bipush (v := 36) hx hb d_Mo_leave_51 (by decide) ?_
      refine lv_icmp_ge hx hb (tgt := 82) d_Mo_leave_53 (by decide) (fun hc9 => ?_) (fun hc9 => ?_)
      · rw [if_pos hc9] at h
        refine lv_iload hx hb d_Mo_leave_82 (lv_at hl 1 rfl) ?_
        obtain rfl := Option.some.inj h
        exact hret hw hR d_Mo_leave_84
      · rw [if_neg hc9] at h
        refine lv_iload hx hb d_Mo_leave_56 (lv_at hl 1 rfl) ?_
        refine lv_aload_n hx hb d_Mo_leave_58 rfl (lv_at hl 0 rfl) ?_
        refine gf_Mo_49 C0 hw hR d_Mo_leave_59 ?_
        refine lv_iload hx hb d_Mo_leave_62 (lv_at hl 2 rfl) ?_
        obtain ⟨hg64, h⟩ := ct_gd_some h
        refine ct_ldma7 C0 hw hR (ct_inR_vp hg64) d_Mo_leave_64 ?_
        refine lv_if_eq hx hb (tgt := 72) d_Mo_leave_65 (by decide) (fun hc9 => ?_) (fun hc9 => ?_)
        · rw [if_pos hc9] at h
          refine lv_iconst (v := 0) hx hb d_Mo_leave_72 (by decide) ?_
          exact J73 ws H locs ls s v4 0 v5 hw hR (lv_sub hl [0, 2] rfl) h
        · rw [if_neg hc9] at h
          refine lv_iconst (v := 1) hx hb d_Mo_leave_68 (by decide) ?_
          refine lv_goto hx hb (tgt := 73) d_Mo_leave_69 (by decide) ?_
          exact J73 ws H locs ls s v4 1 v5 hw hR (lv_sub hl [0, 2] rfl) h
  have J19 : ∀ (ws : va_W) (H : Heap) (locs : List Loc) (ls : Array Slot) (s : MS) (t1 : Int32), ct_Wd g A sv ws H locs → ms_Rel g ws0 ws s → lv_has ls 6 [(0, .ref (g.2.1 35)), (1, .int a1), (2, .int a2), (3, .int a3)] → bk_Mo_leave_19 a1 a2 a3 s t1 = some res → W p l e rm_Mo_leave sv m args below meth c H locs 0 0 Q (F0 m 19 ls [.int t1, .ref (g.2.1 35)]) := by
    intro ws H locs ls s t1 hw hR hl h
    unfold bk_Mo_leave_19 at h
    refine pf_Mo_55 C0 hw hR d_Mo_leave_19 (fun ws H locs hw hR => ?_)
    obtain ⟨s2, es9, h⟩ := ct_nm_ex h
    rw [← es9] at hR
    clear es9
    refine lv_aload_n hx hb d_Mo_leave_22 rfl (lv_at hl 0 rfl) ?_
    refine gf_Mo_55 C0 hw hR d_Mo_leave_23 ?_
    refine lv_if_eq hx hb (tgt := 31) d_Mo_leave_26 (by decide) (fun hc9 => ?_) (fun hc9 => ?_)
    · rw [if_pos hc9] at h
      refine lv_aload_n hx hb d_Mo_leave_31 rfl (lv_at hl 0 rfl) ?_
      refine gf_Mo_49 C0 hw hR d_Mo_leave_32 ?_
      refine lv_bipush (v := 6) hx hb d_Mo_leave_35 (by decide) ?_
      refine lv_iload_n hx hb d_Mo_leave_37 rfl (lv_at hl 1 rfl) ?_
      refine lv_imul hx hb d_Mo_leave_38 ?_
      refine lv_iload_n hx hb d_Mo_leave_39 rfl (lv_at hl 2 rfl) ?_
      refine lv_iadd hx hb d_Mo_leave_40 ?_
      refine lv_iload_n hx hb d_Mo_leave_41 rfl (lv_at hl 3 rfl) ?_
      obtain ⟨hg42, h⟩ := ct_gd_some h
      refine ct_stma7 C0 hw hR (ct_inR_vp hg42) d_Mo_leave_42 (fun ws H locs hw hR => ?_)
      obtain ⟨s3, es9, h⟩ := ct_nm_ex h
      rw [← es9] at hR
      clear es9
      refine lv_iconst (v := 0) hx hb d_Mo_leave_43 (by decide) ?_
      refine lv_istore (lv' := [(4, .int 0), (0, .ref (g.2.1 35)), (1, .int a1), (2, .int a2), (3, .int a3)]) hx hb d_Mo_leave_44 hl (by decide) rfl (fun ls hl => ?_)
      refine lv_iconst (v := 0) hx hb d_Mo_leave_46 (by decide) ?_
      refine lv_istore (lv' := [(5, .int 0), (4, .int 0), (0, .ref (g.2.1 35)), (1, .int a1), (2, .int a2), (3, .int a3)]) hx hb d_Mo_leave_47 hl (by decide) rfl (fun ls hl => ?_)
      exact L49 200 ws H locs ls s3 0 0 hw hR (lv_sub hl [2, 1, 0] rfl) h
    · rw [if_neg hc9] at h
      refine lv_iconst (v := 0) hx hb d_Mo_leave_29 (by decide) ?_
      obtain rfl := Option.some.inj h
      exact hret hw hR d_Mo_leave_30
  unfold fn_Mo_leave at h
  obtain ⟨ws, hwe⟩ : ∃ z : va_W, z = ws0 := ⟨_, rfl⟩
  rw [← hwe] at hw
  have hR : ms_Rel g ws0 ws s := by rw [hwe]; exact hR
  clear hwe
  refine lv_aload_n hx hb d_Mo_leave_0 rfl (lv_at hl 0 rfl) ?_
  refine lv_aload_n hx hb d_Mo_leave_1 rfl (lv_at hl 0 rfl) ?_
  refine lv_iload_n hx hb d_Mo_leave_2 rfl (lv_at hl 1 rfl) ?_
  refine lv_iload_n hx hb d_Mo_leave_3 rfl (lv_at hl 2 rfl) ?_
  refine lv_aload_n hx hb d_Mo_leave_4 rfl (lv_at hl 0 rfl) ?_
  refine gf_Mo_43 C0 hw hR d_Mo_leave_5 ?_
  obtain ⟨x4, ho, h⟩ := ct_ob_some h
  refine ct_callVi C0 hw hl.1 (q0 := 35) (hR.1 35 (by decide) (by decide)) rfl (ct_giV wd_850 wd_852 sel_Mo_noCell wd_7 wd_853) (fun sz => s_Mo_noCell l g ws sz ho) (nA := 3) (rm := rm_Mo_noCell) (by decide +kernel) rfl ⟨rfl, rfl⟩ (by decide) (by decide) (As := [.int a1, .int a2, .int (ms_I s 5)]) (rest := [.ref (g.2.1 35)]) rfl (Nat.le_of_ble_eq_true rfl) d_Mo_leave_8 (fun ws1 H locs hw hp => ?_)
  rw [hp] at hw
  clear hp
  refine lv_if_eq hx hb (tgt := 18) d_Mo_leave_11 (by decide) (fun hc9 => ?_) (fun hc9 => ?_)
  · rw [if_pos hc9] at h
    refine lv_iconst (v := 0) hx hb d_Mo_leave_18 (by decide) ?_
    exact J19 ws H locs ls s 0 hw hR (lv_sub hl [0, 1, 2, 3] rfl) h
  · rw [if_neg hc9] at h
    refine lv_iconst (v := 1) hx hb d_Mo_leave_14 (by decide) ?_
    refine lv_goto hx hb (tgt := 19) d_Mo_leave_15 (by decide) ?_
    exact J19 ws H locs ls s 1 hw hR (lv_sub hl [0, 1, 2, 3] rfl) h

theorem d_Mo_latest_0 : decode c_Mo_latest 0 = .ok (.aload_n 0, 1) := by decide +kernel
theorem d_Mo_latest_1 : decode c_Mo_latest 1 = .ok (.iload_n 1, 1) := by decide +kernel
theorem d_Mo_latest_2 : decode c_Mo_latest 2 = .ok (.iconst 1, 1) := by decide +kernel
theorem d_Mo_latest_3 : decode c_Mo_latest 3 = .ok (.if_icmp .lt 9, 3) := by decide +kernel
theorem d_Mo_latest_6 : decode c_Mo_latest 6 = .ok (.iload_n 1, 1) := by decide +kernel
theorem d_Mo_latest_7 : decode c_Mo_latest 7 = .ok (.bipush 6, 2) := by decide +kernel
theorem d_Mo_latest_9 : decode c_Mo_latest 9 = .ok (.if_icmp .le 7, 3) := by decide +kernel
theorem d_Mo_latest_12 : decode c_Mo_latest 12 = .ok (.iconst 1, 1) := by decide +kernel
theorem d_Mo_latest_13 : decode c_Mo_latest 13 = .ok (.goto 4, 3) := by decide +kernel
theorem d_Mo_latest_16 : decode c_Mo_latest 16 = .ok (.iconst 0, 1) := by decide +kernel
theorem d_Mo_latest_17 : decode c_Mo_latest 17 = .ok (.putfield 55, 3) := by decide +kernel
theorem d_Mo_latest_20 : decode c_Mo_latest 20 = .ok (.aload_n 0, 1) := by decide +kernel
theorem d_Mo_latest_21 : decode c_Mo_latest 21 = .ok (.getfield 55, 3) := by decide +kernel
theorem d_Mo_latest_24 : decode c_Mo_latest 24 = .ok (.ifCond .ne 8, 3) := by decide +kernel
theorem d_Mo_latest_27 : decode c_Mo_latest 27 = .ok (.aload_n 0, 1) := by decide +kernel
theorem d_Mo_latest_28 : decode c_Mo_latest 28 = .ok (.iload_n 1, 1) := by decide +kernel
theorem d_Mo_latest_29 : decode c_Mo_latest 29 = .ok (.putfield 46, 3) := by decide +kernel
theorem d_Mo_latest_32 : decode c_Mo_latest 32 = .ok (.return_, 1) := by decide +kernel
set_option maxHeartbeats 4000000 in
set_option maxRecDepth 100000 in
theorem s_Mo_latest (l : Launch) (g : Gx) (ws0 : va_W) (sz : Nat) {s : MS} {a1 : Int32} {res : MS} (hR : ms_Rel g ws0 ws0 s) (h : fn_Mo_latest s a1 = some res) : ct_MV l y_Mo_latest c_Mo_latest 2 none rm_Mo_latest g ws0 sz [.ref (g.2.1 35), .int a1]  (fun u => ms_Rel g ws0 u res) := by
  refine ct_startv (by decide +kernel) (Nat.le_of_ble_eq_true rfl) (fun p e sv m args below meth c ls Q A H locs C0 hret hl hw => ?_)
  have hx := C0.1
  have hb := C0.2.1
  have hown := C0.2.2.2.1
  have hts := C0.2.2.2.2.1
  have hl : lv_has ls 2 [(0, .ref (g.2.1 35)), (1, .int a1)] := hl
  have J17 : ∀ (ws : va_W) (H : Heap) (locs : List Loc) (ls : Array Slot) (s : MS) (t1 : Int32), ct_Wd g A sv ws H locs → ms_Rel g ws0 ws s → lv_has ls 2 [(0, .ref (g.2.1 35)), (1, .int a1)] → bk_Mo_latest_17 a1 s t1 = some res → W p l e rm_Mo_latest sv m args below meth c H locs 0 0 Q (F0 m 17 ls [.int t1, .ref (g.2.1 35)]) := by
    intro ws H locs ls s t1 hw hR hl h
    unfold bk_Mo_latest_17 at h
    refine pf_Mo_55 C0 hw hR d_Mo_latest_17 (fun ws H locs hw hR => ?_)
    obtain ⟨s1, es9, h⟩ := ct_nm_ex h
    rw [← es9] at hR
    clear es9
    refine lv_aload_n hx hb d_Mo_latest_20 rfl (lv_at hl 0 rfl) ?_
    refine gf_Mo_55 C0 hw hR d_Mo_latest_21 ?_
    refine lv_if_ne hx hb (tgt := 32) d_Mo_latest_24 (by decide) (fun hc9 => ?_) (fun hc9 => ?_)
    · rw [if_pos hc9] at h
      obtain rfl := Option.some.inj h
      exact hret hw hR d_Mo_latest_32
    · rw [if_neg (fun q => q hc9)] at h
      refine lv_aload_n hx hb d_Mo_latest_27 rfl (lv_at hl 0 rfl) ?_
      refine lv_iload_n hx hb d_Mo_latest_28 rfl (lv_at hl 1 rfl) ?_
      refine pf_Mo_46 C0 hw hR d_Mo_latest_29 (fun ws H locs hw hR => ?_)
      obtain ⟨s2, es9, h⟩ := ct_nm_ex h
      rw [← es9] at hR
      clear es9
      obtain rfl := Option.some.inj h
      exact hret hw hR d_Mo_latest_32
  unfold fn_Mo_latest at h
  obtain ⟨ws, hwe⟩ : ∃ z : va_W, z = ws0 := ⟨_, rfl⟩
  rw [← hwe] at hw
  have hR : ms_Rel g ws0 ws s := by rw [hwe]; exact hR
  clear hwe
  refine lv_aload_n hx hb d_Mo_latest_0 rfl (lv_at hl 0 rfl) ?_
  refine lv_iload_n hx hb d_Mo_latest_1 rfl (lv_at hl 1 rfl) ?_
  refine lv_iconst (v := 1) hx hb d_Mo_latest_2 (by decide) ?_
  refine lv_icmp_lt hx hb (tgt := 12) d_Mo_latest_3 (by decide) (fun hc9 => ?_) (fun hc9 => ?_)
  · rw [if_pos hc9] at h
    refine lv_iconst (v := 1) hx hb d_Mo_latest_12 (by decide) ?_
    refine lv_goto hx hb (tgt := 17) d_Mo_latest_13 (by decide) ?_
    exact J17 ws H locs ls s 1 hw hR (lv_sub hl [0, 1] rfl) h
  · rw [if_neg hc9] at h
    refine lv_iload_n hx hb d_Mo_latest_6 rfl (lv_at hl 1 rfl) ?_
    refine lv_bipush (v := 6) hx hb d_Mo_latest_7 (by decide) ?_
    refine lv_icmp_le hx hb (tgt := 16) d_Mo_latest_9 (by decide) (fun hc9 => ?_) (fun hc9 => ?_)
    · rw [if_pos hc9] at h
      refine lv_iconst (v := 0) hx hb d_Mo_latest_16 (by decide) ?_
      exact J17 ws H locs ls s 0 hw hR (lv_sub hl [0, 1] rfl) h
    · rw [if_neg hc9] at h
      refine lv_iconst (v := 1) hx hb d_Mo_latest_12 (by decide) ?_
      refine lv_goto hx hb (tgt := 17) d_Mo_latest_13 (by decide) ?_
      exact J17 ws H locs ls s 1 hw hR (lv_sub hl [0, 1] rfl) h

theorem d_Mo_hide_0 : decode c_Mo_hide 0 = .ok (.aload_n 0, 1) := by decide +kernel
theorem d_Mo_hide_1 : decode c_Mo_hide 1 = .ok (.iload_n 1, 1) := by decide +kernel
theorem d_Mo_hide_2 : decode c_Mo_hide 2 = .ok (.ifCond .lt 11, 3) := by decide +kernel
theorem d_Mo_hide_5 : decode c_Mo_hide 5 = .ok (.iload_n 1, 1) := by decide +kernel
theorem d_Mo_hide_6 : decode c_Mo_hide 6 = .ok (.aload_n 0, 1) := by decide +kernel
theorem d_Mo_hide_7 : decode c_Mo_hide 7 = .ok (.getfield 43, 3) := by decide +kernel
theorem d_Mo_hide_10 : decode c_Mo_hide 10 = .ok (.if_icmp .lt 7, 3) := by decide +kernel
theorem d_Mo_hide_13 : decode c_Mo_hide 13 = .ok (.iconst 1, 1) := by decide +kernel
theorem d_Mo_hide_14 : decode c_Mo_hide 14 = .ok (.goto 4, 3) := by decide +kernel
theorem d_Mo_hide_17 : decode c_Mo_hide 17 = .ok (.iconst 0, 1) := by decide +kernel
theorem d_Mo_hide_18 : decode c_Mo_hide 18 = .ok (.putfield 55, 3) := by decide +kernel
theorem d_Mo_hide_21 : decode c_Mo_hide 21 = .ok (.aload_n 0, 1) := by decide +kernel
theorem d_Mo_hide_22 : decode c_Mo_hide 22 = .ok (.getfield 55, 3) := by decide +kernel
theorem d_Mo_hide_25 : decode c_Mo_hide 25 = .ok (.ifCond .eq 5, 3) := by decide +kernel
theorem d_Mo_hide_28 : decode c_Mo_hide 28 = .ok (.iconst 0, 1) := by decide +kernel
theorem d_Mo_hide_29 : decode c_Mo_hide 29 = .ok (.ireturn, 1) := by decide +kernel
theorem d_Mo_hide_30 : decode c_Mo_hide 30 = .ok (.aload_n 0, 1) := by decide +kernel
theorem d_Mo_hide_31 : decode c_Mo_hide 31 = .ok (.iload_n 1, 1) := by decide +kernel
theorem d_Mo_hide_32 : decode c_Mo_hide 32 = .ok (.putfield 87, 3) := by decide +kernel
theorem d_Mo_hide_35 : decode c_Mo_hide 35 = .ok (.aload_n 0, 1) := by decide +kernel
theorem d_Mo_hide_36 : decode c_Mo_hide 36 = .ok (.invokevirtual 100, 3) := by decide +kernel
theorem d_Mo_hide_39 : decode c_Mo_hide 39 = .ok (.ireturn, 1) := by decide +kernel
set_option maxHeartbeats 4000000 in
set_option maxRecDepth 100000 in
theorem s_Mo_hide (l : Launch) (g : Gx) (ws0 : va_W) (sz : Nat) {s : MS} {a1 : Int32} {res : (Int32 × MS)} (hR : ms_Rel g ws0 ws0 s) (h : fn_Mo_hide s a1 = some res) : ct_MI l y_Mo_hide c_Mo_hide 2 (some .int) rm_Mo_hide g ws0 sz [.ref (g.2.1 35), .int a1] res.1 (fun u => ms_Rel g ws0 u res.2) := by
  refine ct_starti (by decide +kernel) (Nat.le_of_ble_eq_true rfl) (fun p e sv m args below meth c ls Q A H locs C0 hret hl hw => ?_)
  have hx := C0.1
  have hb := C0.2.1
  have hown := C0.2.2.2.1
  have hts := C0.2.2.2.2.1
  have hl : lv_has ls 2 [(0, .ref (g.2.1 35)), (1, .int a1)] := hl
  have J18 : ∀ (ws : va_W) (H : Heap) (locs : List Loc) (ls : Array Slot) (s : MS) (t1 : Int32), ct_Wd g A sv ws H locs → ms_Rel g ws0 ws s → lv_has ls 2 [(0, .ref (g.2.1 35)), (1, .int a1)] → bk_Mo_hide_18 a1 s t1 = some res → W p l e rm_Mo_hide sv m args below meth c H locs 0 0 Q (F0 m 18 ls [.int t1, .ref (g.2.1 35)]) := by
    intro ws H locs ls s t1 hw hR hl h
    unfold bk_Mo_hide_18 at h
    refine pf_Mo_55 C0 hw hR d_Mo_hide_18 (fun ws H locs hw hR => ?_)
    obtain ⟨s1, es9, h⟩ := ct_nm_ex h
    rw [← es9] at hR
    clear es9
    refine lv_aload_n hx hb d_Mo_hide_21 rfl (lv_at hl 0 rfl) ?_
    refine gf_Mo_55 C0 hw hR d_Mo_hide_22 ?_
    refine lv_if_eq hx hb (tgt := 30) d_Mo_hide_25 (by decide) (fun hc9 => ?_) (fun hc9 => ?_)
    · rw [if_pos hc9] at h
      refine lv_aload_n hx hb d_Mo_hide_30 rfl (lv_at hl 0 rfl) ?_
      refine lv_iload_n hx hb d_Mo_hide_31 rfl (lv_at hl 1 rfl) ?_
      refine pf_Mo_87 C0 hw hR d_Mo_hide_32 (fun ws H locs hw hR => ?_)
      obtain ⟨s2, es9, h⟩ := ct_nm_ex h
      rw [← es9] at hR
      clear es9
      refine lv_aload_n hx hb d_Mo_hide_35 rfl (lv_at hl 0 rfl) ?_
      obtain ⟨x3, ho, h⟩ := ct_ob_some h
      refine ct_callVi C0 hw hl.1 (q0 := 35) (hR.1 35 (by decide) (by decide)) rfl (ct_giV wd_846 wd_848 sel_Mo_left wd_7 wd_849) (fun sz => s_Mo_left l g ws sz hR.rf ho) (nA := 0) (rm := rm_Mo_left) (by decide +kernel) rfl ⟨rfl, rfl⟩ (by decide) (by decide) (As := []) (rest := []) rfl (Nat.le_of_ble_eq_true rfl) d_Mo_hide_36 (fun ws1 H locs hw hp => ?_)
      rw [hp] at hw
      clear hp
      obtain rfl := Option.some.inj h
      exact hret hw hR d_Mo_hide_39
    · rw [if_neg hc9] at h
      refine lv_iconst (v := 0) hx hb d_Mo_hide_28 (by decide) ?_
      obtain rfl := Option.some.inj h
      exact hret hw hR d_Mo_hide_29
  unfold fn_Mo_hide at h
  obtain ⟨ws, hwe⟩ : ∃ z : va_W, z = ws0 := ⟨_, rfl⟩
  rw [← hwe] at hw
  have hR : ms_Rel g ws0 ws s := by rw [hwe]; exact hR
  clear hwe
  refine lv_aload_n hx hb d_Mo_hide_0 rfl (lv_at hl 0 rfl) ?_
  refine lv_iload_n hx hb d_Mo_hide_1 rfl (lv_at hl 1 rfl) ?_
  refine lv_if_lt hx hb (tgt := 13) d_Mo_hide_2 (by decide) (fun hc9 => ?_) (fun hc9 => ?_)
  · rw [if_pos hc9] at h
    refine lv_iconst (v := 1) hx hb d_Mo_hide_13 (by decide) ?_
    refine lv_goto hx hb (tgt := 18) d_Mo_hide_14 (by decide) ?_
    exact J18 ws H locs ls s 1 hw hR (lv_sub hl [0, 1] rfl) h
  · rw [if_neg hc9] at h
    refine lv_iload_n hx hb d_Mo_hide_5 rfl (lv_at hl 1 rfl) ?_
    refine lv_aload_n hx hb d_Mo_hide_6 rfl (lv_at hl 0 rfl) ?_
    refine gf_Mo_43 C0 hw hR d_Mo_hide_7 ?_
    refine lv_icmp_lt hx hb (tgt := 17) d_Mo_hide_10 (by decide) (fun hc9 => ?_) (fun hc9 => ?_)
    · rw [if_pos hc9] at h
      refine lv_iconst (v := 0) hx hb d_Mo_hide_17 (by decide) ?_
      exact J18 ws H locs ls s 0 hw hR (lv_sub hl [0, 1] rfl) h
    · rw [if_neg hc9] at h
      refine lv_iconst (v := 1) hx hb d_Mo_hide_13 (by decide) ?_
      refine lv_goto hx hb (tgt := 18) d_Mo_hide_14 (by decide) ?_
      exact J18 ws H locs ls s 1 hw hR (lv_sub hl [0, 1] rfl) h

theorem d_Mo_size_0 : decode c_Mo_size 0 = .ok (.lload_n 1, 1) := by decide +kernel
theorem d_Mo_size_1 : decode c_Mo_size 1 = .ok (.lconst 0, 1) := by decide +kernel
theorem d_Mo_size_2 : decode c_Mo_size 2 = .ok (.lcmp, 1) := by decide +kernel
theorem d_Mo_size_3 : decode c_Mo_size 3 = .ok (.ifCond .ge 8, 3) := by decide +kernel
theorem d_Mo_size_6 : decode c_Mo_size 6 = .ok (.lload_n 1, 1) := by decide +kernel
theorem d_Mo_size_7 : decode c_Mo_size 7 = .ok (.lneg, 1) := by decide +kernel
theorem d_Mo_size_8 : decode c_Mo_size 8 = .ok (.goto 4, 3) := by decide +kernel
theorem d_Mo_size_11 : decode c_Mo_size 11 = .ok (.lload_n 1, 1) := by decide +kernel
theorem d_Mo_size_12 : decode c_Mo_size 12 = .ok (.lreturn, 1) := by decide +kernel
set_option maxHeartbeats 4000000 in
set_option maxRecDepth 100000 in
theorem s_Mo_size (l : Launch) (g : Gx) (ws0 : va_W) (sz : Nat) {a1 : Int64} {res : Int64} (h : fn_Mo_size a1 = some res) : ct_ML l y_Mo_size c_Mo_size 3 (some .long) rm_Mo_size g ws0 sz [.ref (g.2.1 35), .long a1] res (fun u => u = ws0) := by
  refine ct_startl (by decide +kernel) (Nat.le_of_ble_eq_true rfl) (fun p e sv m args below meth c ls Q A H locs C0 hret hl hw => ?_)
  have hx := C0.1
  have hb := C0.2.1
  have hown := C0.2.2.2.1
  have hts := C0.2.2.2.2.1
  have hl : lv_has ls 3 [(0, .ref (g.2.1 35)), (1, .long a1)] := hl
  unfold fn_Mo_size at h
  refine lv_lload_n hx hb d_Mo_size_0 rfl (lv_at hl 1 rfl) ?_
  refine lv_lconst (v := 0) hx hb d_Mo_size_1 (by decide) ?_
  refine W.lcmp hx hb d_Mo_size_2 ?_
  refine lv_if_ge hx hb (tgt := 11) d_Mo_size_3 (by decide) (fun hc9 => ?_) (fun hc9 => ?_)
  · rw [if_pos hc9] at h
    refine lv_lload_n hx hb d_Mo_size_11 rfl (lv_at hl 1 rfl) ?_
    obtain rfl := Option.some.inj h
    exact hret hw rfl d_Mo_size_12
  · rw [if_neg hc9] at h
    refine lv_lload_n hx hb d_Mo_size_6 rfl (lv_at hl 1 rfl) ?_
    refine lv_lneg hx hb d_Mo_size_7 ?_
    refine lv_goto hx hb (tgt := 12) d_Mo_size_8 (by decide) ?_
    obtain rfl := Option.some.inj h
    exact hret hw rfl d_Mo_size_12

theorem d_Mo_isShort_0 : decode c_Mo_isShort 0 = .ok (.lload_n 1, 1) := by decide +kernel
theorem d_Mo_isShort_1 : decode c_Mo_isShort 1 = .ok (.lconst 0, 1) := by decide +kernel
theorem d_Mo_isShort_2 : decode c_Mo_isShort 2 = .ok (.lcmp, 1) := by decide +kernel
theorem d_Mo_isShort_3 : decode c_Mo_isShort 3 = .ok (.ifCond .eq 27, 3) := by decide +kernel
theorem d_Mo_isShort_6 : decode c_Mo_isShort 6 = .ok (.lload_n 3, 1) := by decide +kernel
theorem d_Mo_isShort_7 : decode c_Mo_isShort 7 = .ok (.lconst 0, 1) := by decide +kernel
theorem d_Mo_isShort_8 : decode c_Mo_isShort 8 = .ok (.lcmp, 1) := by decide +kernel
theorem d_Mo_isShort_9 : decode c_Mo_isShort 9 = .ok (.ifCond .eq 21, 3) := by decide +kernel
theorem d_Mo_isShort_12 : decode c_Mo_isShort 12 = .ok (.aload_n 0, 1) := by decide +kernel
theorem d_Mo_isShort_13 : decode c_Mo_isShort 13 = .ok (.lload_n 1, 1) := by decide +kernel
theorem d_Mo_isShort_14 : decode c_Mo_isShort 14 = .ok (.invokevirtual 108, 3) := by decide +kernel
theorem d_Mo_isShort_17 : decode c_Mo_isShort 17 = .ok (.ldc2_w 112, 3) := by decide +kernel
theorem d_Mo_isShort_20 : decode c_Mo_isShort 20 = .ok (.aload_n 0, 1) := by decide +kernel
theorem d_Mo_isShort_21 : decode c_Mo_isShort 21 = .ok (.lload_n 3, 1) := by decide +kernel
theorem d_Mo_isShort_22 : decode c_Mo_isShort 22 = .ok (.invokevirtual 108, 3) := by decide +kernel
theorem d_Mo_isShort_25 : decode c_Mo_isShort 25 = .ok (.ldiv, 1) := by decide +kernel
theorem d_Mo_isShort_26 : decode c_Mo_isShort 26 = .ok (.lcmp, 1) := by decide +kernel
theorem d_Mo_isShort_27 : decode c_Mo_isShort 27 = .ok (.ifCond .gt 7, 3) := by decide +kernel
theorem d_Mo_isShort_30 : decode c_Mo_isShort 30 = .ok (.iconst 1, 1) := by decide +kernel
theorem d_Mo_isShort_31 : decode c_Mo_isShort 31 = .ok (.goto 4, 3) := by decide +kernel
theorem d_Mo_isShort_34 : decode c_Mo_isShort 34 = .ok (.iconst 0, 1) := by decide +kernel
theorem d_Mo_isShort_35 : decode c_Mo_isShort 35 = .ok (.ireturn, 1) := by decide +kernel
set_option maxHeartbeats 4000000 in
set_option maxRecDepth 100000 in
theorem s_Mo_isShort (l : Launch) (g : Gx) (ws0 : va_W) (sz : Nat) {s : MS} {a1 : Int64} {a2 : Int64} {res : Int32} (hR : ms_Rel g ws0 ws0 s) (h : fn_Mo_isShort a1 a2 = some res) : ct_MI l y_Mo_isShort c_Mo_isShort 5 (some .boolean) rm_Mo_isShort g ws0 sz [.ref (g.2.1 35), .long a1, .long a2] res (fun u => u = ws0) := by
  refine ct_startz (by decide +kernel) (Nat.le_of_ble_eq_true rfl) (fun p e sv m args below meth c ls Q A H locs C0 hret hl hw => ?_)
  have hx := C0.1
  have hb := C0.2.1
  have hown := C0.2.2.2.1
  have hts := C0.2.2.2.2.1
  have hl : lv_has ls 5 [(0, .ref (g.2.1 35)), (1, .long a1), (3, .long a2)] := hl
  unfold fn_Mo_isShort at h
  refine lv_lload_n hx hb d_Mo_isShort_0 rfl (lv_at hl 1 rfl) ?_
  refine lv_lconst (v := 0) hx hb d_Mo_isShort_1 (by decide) ?_
  refine W.lcmp hx hb d_Mo_isShort_2 ?_
  refine lv_if_eq hx hb (tgt := 30) d_Mo_isShort_3 (by decide) (fun hc9 => ?_) (fun hc9 => ?_)
  · rw [if_pos hc9] at h
    refine lv_iconst (v := 1) hx hb d_Mo_isShort_30 (by decide) ?_
    refine lv_goto hx hb (tgt := 35) d_Mo_isShort_31 (by decide) ?_
    have hz : ct_isB 1 = true := by decide
    obtain rfl := Option.some.inj h
    exact hret hz hw rfl d_Mo_isShort_35
  · rw [if_neg hc9] at h
    refine lv_lload_n hx hb d_Mo_isShort_6 rfl (lv_at hl 2 rfl) ?_
    refine lv_lconst (v := 0) hx hb d_Mo_isShort_7 (by decide) ?_
    refine W.lcmp hx hb d_Mo_isShort_8 ?_
    refine lv_if_eq hx hb (tgt := 30) d_Mo_isShort_9 (by decide) (fun hc9 => ?_) (fun hc9 => ?_)
    · rw [if_pos hc9] at h
      refine lv_iconst (v := 1) hx hb d_Mo_isShort_30 (by decide) ?_
      refine lv_goto hx hb (tgt := 35) d_Mo_isShort_31 (by decide) ?_
      have hz : ct_isB 1 = true := by decide
      obtain rfl := Option.some.inj h
      exact hret hz hw rfl d_Mo_isShort_35
    · rw [if_neg hc9] at h
      refine lv_aload_n hx hb d_Mo_isShort_12 rfl (lv_at hl 0 rfl) ?_
      refine lv_lload_n hx hb d_Mo_isShort_13 rfl (lv_at hl 1 rfl) ?_
      obtain ⟨x1, ho, h⟩ := ct_ob_some h
      refine ct_callVl C0 hw hl.1 (q0 := 35) (hR.1 35 (by decide) (by decide)) rfl (ct_giV wd_890 wd_892 sel_Mo_size wd_7 wd_893) (fun sz => s_Mo_size l g ws0 sz ho) (nA := 1) (rm := rm_Mo_size) (by decide +kernel) rfl ⟨rfl, rfl⟩ (by decide) (by decide) (As := [.long a1]) (rest := []) rfl (Nat.le_of_ble_eq_true rfl) d_Mo_isShort_14 (fun ws1 H locs hw hp => ?_)
      rw [hp] at hw
      clear hp
      refine lv_ldc2 (v := 4611686018427387904) hx hb hown (hts _ wd_926) d_Mo_isShort_17 ?_
      refine lv_aload_n hx hb d_Mo_isShort_20 rfl (lv_at hl 0 rfl) ?_
      refine lv_lload_n hx hb d_Mo_isShort_21 rfl (lv_at hl 2 rfl) ?_
      obtain ⟨x2, ho, h⟩ := ct_ob_some h
      refine ct_callVl C0 hw hl.1 (q0 := 35) (hR.1 35 (by decide) (by decide)) rfl (ct_giV wd_890 wd_892 sel_Mo_size wd_7 wd_893) (fun sz => s_Mo_size l g ws0 sz ho) (nA := 1) (rm := rm_Mo_size) (by decide +kernel) rfl ⟨rfl, rfl⟩ (by decide) (by decide) (As := [.long a2]) (rest := [.long 4611686018427387904, .long x1]) rfl (Nat.le_of_ble_eq_true rfl) d_Mo_isShort_22 (fun ws1 H locs hw hp => ?_)
      rw [hp] at hw
      clear hp
      obtain ⟨hg, h⟩ := ct_gd_some h
      refine lv_ldiv hx hb d_Mo_isShort_25 (ct_gzL_ne hg) ?_
      refine W.lcmp hx hb d_Mo_isShort_26 ?_
      refine lv_if_gt hx hb (tgt := 34) d_Mo_isShort_27 (by decide) (fun hc9 => ?_) (fun hc9 => ?_)
      · rw [if_pos hc9] at h
        refine lv_iconst (v := 0) hx hb d_Mo_isShort_34 (by decide) ?_
        have hz : ct_isB 0 = true := by decide
        obtain rfl := Option.some.inj h
        exact hret hz hw rfl d_Mo_isShort_35
      · rw [if_neg hc9] at h
        refine lv_iconst (v := 1) hx hb d_Mo_isShort_30 (by decide) ?_
        refine lv_goto hx hb (tgt := 35) d_Mo_isShort_31 (by decide) ?_
        have hz : ct_isB 1 = true := by decide
        obtain rfl := Option.some.inj h
        exact hret hz hw rfl d_Mo_isShort_35

theorem d_Mo_set_0 : decode c_Mo_set 0 = .ok (.aload_n 0, 1) := by decide +kernel
theorem d_Mo_set_1 : decode c_Mo_set 1 = .ok (.lload_n 1, 1) := by decide +kernel
theorem d_Mo_set_2 : decode c_Mo_set 2 = .ok (.putfield 114, 3) := by decide +kernel
theorem d_Mo_set_5 : decode c_Mo_set 5 = .ok (.aload_n 0, 1) := by decide +kernel
theorem d_Mo_set_6 : decode c_Mo_set 6 = .ok (.lload_n 3, 1) := by decide +kernel
theorem d_Mo_set_7 : decode c_Mo_set 7 = .ok (.putfield 118, 3) := by decide +kernel
theorem d_Mo_set_10 : decode c_Mo_set 10 = .ok (.return_, 1) := by decide +kernel
set_option maxHeartbeats 4000000 in
set_option maxRecDepth 100000 in
theorem s_Mo_set (l : Launch) (g : Gx) (ws0 : va_W) (sz : Nat) {s : MS} {a1 : Int64} {a2 : Int64} {res : MS} (hR : ms_Rel g ws0 ws0 s) (h : fn_Mo_set s a1 a2 = some res) : ct_MV l y_Mo_set c_Mo_set 5 none rm_Mo_set g ws0 sz [.ref (g.2.1 35), .long a1, .long a2]  (fun u => ms_Rel g ws0 u res) := by
  refine ct_startv (by decide +kernel) (Nat.le_of_ble_eq_true rfl) (fun p e sv m args below meth c ls Q A H locs C0 hret hl hw => ?_)
  have hx := C0.1
  have hb := C0.2.1
  have hown := C0.2.2.2.1
  have hts := C0.2.2.2.2.1
  have hl : lv_has ls 5 [(0, .ref (g.2.1 35)), (1, .long a1), (3, .long a2)] := hl
  unfold fn_Mo_set at h
  obtain ⟨ws, hwe⟩ : ∃ z : va_W, z = ws0 := ⟨_, rfl⟩
  rw [← hwe] at hw
  have hR : ms_Rel g ws0 ws s := by rw [hwe]; exact hR
  clear hwe
  refine lv_aload_n hx hb d_Mo_set_0 rfl (lv_at hl 0 rfl) ?_
  refine lv_lload_n hx hb d_Mo_set_1 rfl (lv_at hl 1 rfl) ?_
  refine pf_Mo_114 C0 hw hR d_Mo_set_2 (fun ws H locs hw hR => ?_)
  obtain ⟨s1, es9, h⟩ := ct_nm_ex h
  rw [← es9] at hR
  clear es9
  refine lv_aload_n hx hb d_Mo_set_5 rfl (lv_at hl 0 rfl) ?_
  refine lv_lload_n hx hb d_Mo_set_6 rfl (lv_at hl 2 rfl) ?_
  refine pf_Mo_118 C0 hw hR d_Mo_set_7 (fun ws H locs hw hR => ?_)
  obtain ⟨s2, es9, h⟩ := ct_nm_ex h
  rw [← es9] at hR
  clear es9
  obtain rfl := Option.some.inj h
  exact hret hw hR d_Mo_set_10

theorem d_Mo_times_0 : decode c_Mo_times 0 = .ok (.aload_n 0, 1) := by decide +kernel
theorem d_Mo_times_1 : decode c_Mo_times 1 = .ok (.getfield 97, 3) := by decide +kernel
theorem d_Mo_times_4 : decode c_Mo_times 4 = .ok (.ifCond .eq 4, 3) := by decide +kernel
theorem d_Mo_times_7 : decode c_Mo_times 7 = .ok (.return_, 1) := by decide +kernel
theorem d_Mo_times_8 : decode c_Mo_times 8 = .ok (.aload_n 0, 1) := by decide +kernel
theorem d_Mo_times_9 : decode c_Mo_times 9 = .ok (.aload_n 0, 1) := by decide +kernel
theorem d_Mo_times_10 : decode c_Mo_times 10 = .ok (.aload_n 0, 1) := by decide +kernel
theorem d_Mo_times_11 : decode c_Mo_times 11 = .ok (.getfield 114, 3) := by decide +kernel
theorem d_Mo_times_14 : decode c_Mo_times 14 = .ok (.invokevirtual 108, 3) := by decide +kernel
theorem d_Mo_times_17 : decode c_Mo_times 17 = .ok (.lload_n 3, 1) := by decide +kernel
theorem d_Mo_times_18 : decode c_Mo_times 18 = .ok (.invokevirtual 76, 3) := by decide +kernel
theorem d_Mo_times_21 : decode c_Mo_times 21 = .ok (.lstore 5, 2) := by decide +kernel
theorem d_Mo_times_23 : decode c_Mo_times 23 = .ok (.aload_n 0, 1) := by decide +kernel
theorem d_Mo_times_24 : decode c_Mo_times 24 = .ok (.aload_n 0, 1) := by decide +kernel
theorem d_Mo_times_25 : decode c_Mo_times 25 = .ok (.lload_n 1, 1) := by decide +kernel
theorem d_Mo_times_26 : decode c_Mo_times 26 = .ok (.invokevirtual 108, 3) := by decide +kernel
theorem d_Mo_times_29 : decode c_Mo_times 29 = .ok (.aload_n 0, 1) := by decide +kernel
theorem d_Mo_times_30 : decode c_Mo_times 30 = .ok (.getfield 118, 3) := by decide +kernel
theorem d_Mo_times_33 : decode c_Mo_times 33 = .ok (.invokevirtual 76, 3) := by decide +kernel
theorem d_Mo_times_36 : decode c_Mo_times 36 = .ok (.lstore 7, 2) := by decide +kernel
theorem d_Mo_times_38 : decode c_Mo_times 38 = .ok (.aload_n 0, 1) := by decide +kernel
theorem d_Mo_times_39 : decode c_Mo_times 39 = .ok (.getfield 114, 3) := by decide +kernel
theorem d_Mo_times_42 : decode c_Mo_times 42 = .ok (.lload 5, 2) := by decide +kernel
theorem d_Mo_times_44 : decode c_Mo_times 44 = .ok (.ldiv, 1) := by decide +kernel
theorem d_Mo_times_45 : decode c_Mo_times 45 = .ok (.lstore 9, 2) := by decide +kernel
theorem d_Mo_times_47 : decode c_Mo_times 47 = .ok (.aload_n 0, 1) := by decide +kernel
theorem d_Mo_times_48 : decode c_Mo_times 48 = .ok (.getfield 118, 3) := by decide +kernel
theorem d_Mo_times_51 : decode c_Mo_times 51 = .ok (.lload 7, 2) := by decide +kernel
theorem d_Mo_times_53 : decode c_Mo_times 53 = .ok (.ldiv, 1) := by decide +kernel
theorem d_Mo_times_54 : decode c_Mo_times 54 = .ok (.lstore 11, 2) := by decide +kernel
theorem d_Mo_times_56 : decode c_Mo_times 56 = .ok (.aload_n 0, 1) := by decide +kernel
theorem d_Mo_times_57 : decode c_Mo_times 57 = .ok (.aload_n 0, 1) := by decide +kernel
theorem d_Mo_times_58 : decode c_Mo_times 58 = .ok (.lload 9, 2) := by decide +kernel
theorem d_Mo_times_60 : decode c_Mo_times 60 = .ok (.lload_n 1, 1) := by decide +kernel
theorem d_Mo_times_61 : decode c_Mo_times 61 = .ok (.lload 7, 2) := by decide +kernel
theorem d_Mo_times_63 : decode c_Mo_times 63 = .ok (.ldiv, 1) := by decide +kernel
theorem d_Mo_times_64 : decode c_Mo_times 64 = .ok (.invokevirtual 121, 3) := by decide +kernel
theorem d_Mo_times_67 : decode c_Mo_times 67 = .ok (.ifCond .eq 16, 3) := by decide +kernel
theorem d_Mo_times_70 : decode c_Mo_times 70 = .ok (.aload_n 0, 1) := by decide +kernel
theorem d_Mo_times_71 : decode c_Mo_times 71 = .ok (.lload 11, 2) := by decide +kernel
theorem d_Mo_times_73 : decode c_Mo_times 73 = .ok (.lload_n 3, 1) := by decide +kernel
theorem d_Mo_times_74 : decode c_Mo_times 74 = .ok (.lload 5, 2) := by decide +kernel
theorem d_Mo_times_76 : decode c_Mo_times 76 = .ok (.ldiv, 1) := by decide +kernel
theorem d_Mo_times_77 : decode c_Mo_times 77 = .ok (.invokevirtual 121, 3) := by decide +kernel
theorem d_Mo_times_80 : decode c_Mo_times 80 = .ok (.ifCond .ne 7, 3) := by decide +kernel
theorem d_Mo_times_83 : decode c_Mo_times 83 = .ok (.iconst 1, 1) := by decide +kernel
theorem d_Mo_times_84 : decode c_Mo_times 84 = .ok (.goto 4, 3) := by decide +kernel
theorem d_Mo_times_87 : decode c_Mo_times 87 = .ok (.iconst 0, 1) := by decide +kernel
theorem d_Mo_times_88 : decode c_Mo_times 88 = .ok (.putfield 97, 3) := by decide +kernel
theorem d_Mo_times_91 : decode c_Mo_times 91 = .ok (.aload_n 0, 1) := by decide +kernel
theorem d_Mo_times_92 : decode c_Mo_times 92 = .ok (.getfield 97, 3) := by decide +kernel
theorem d_Mo_times_95 : decode c_Mo_times 95 = .ok (.ifCond .ne 21, 3) := by decide +kernel
theorem d_Mo_times_98 : decode c_Mo_times 98 = .ok (.aload_n 0, 1) := by decide +kernel
theorem d_Mo_times_99 : decode c_Mo_times 99 = .ok (.lload 9, 2) := by decide +kernel
theorem d_Mo_times_101 : decode c_Mo_times 101 = .ok (.lload_n 1, 1) := by decide +kernel
theorem d_Mo_times_102 : decode c_Mo_times 102 = .ok (.lload 7, 2) := by decide +kernel
theorem d_Mo_times_104 : decode c_Mo_times 104 = .ok (.ldiv, 1) := by decide +kernel
theorem d_Mo_times_105 : decode c_Mo_times 105 = .ok (.lmul, 1) := by decide +kernel
theorem d_Mo_times_106 : decode c_Mo_times 106 = .ok (.lload 11, 2) := by decide +kernel
theorem d_Mo_times_108 : decode c_Mo_times 108 = .ok (.lload_n 3, 1) := by decide +kernel
theorem d_Mo_times_109 : decode c_Mo_times 109 = .ok (.lload 5, 2) := by decide +kernel
theorem d_Mo_times_111 : decode c_Mo_times 111 = .ok (.ldiv, 1) := by decide +kernel
theorem d_Mo_times_112 : decode c_Mo_times 112 = .ok (.lmul, 1) := by decide +kernel
theorem d_Mo_times_113 : decode c_Mo_times 113 = .ok (.invokevirtual 125, 3) := by decide +kernel
theorem d_Mo_times_116 : decode c_Mo_times 116 = .ok (.return_, 1) := by decide +kernel
set_option maxHeartbeats 4000000 in
set_option maxRecDepth 100000 in
theorem s_Mo_times (l : Launch) (g : Gx) (ws0 : va_W) (sz : Nat) {s : MS} {a1 : Int64} {a2 : Int64} {res : MS} (hR : ms_Rel g ws0 ws0 s) (h : fn_Mo_times s a1 a2 = some res) : ct_MV l y_Mo_times c_Mo_times 13 none rm_Mo_times g ws0 sz [.ref (g.2.1 35), .long a1, .long a2]  (fun u => ms_Rel g ws0 u res) := by
  refine ct_startv (by decide +kernel) (Nat.le_of_ble_eq_true rfl) (fun p e sv m args below meth c ls Q A H locs C0 hret hl hw => ?_)
  have hx := C0.1
  have hb := C0.2.1
  have hown := C0.2.2.2.1
  have hts := C0.2.2.2.2.1
  have hl : lv_has ls 13 [(0, .ref (g.2.1 35)), (1, .long a1), (3, .long a2)] := hl
  have J88 : ∀ (ws : va_W) (H : Heap) (locs : List Loc) (ls : Array Slot) (s : MS) (t1 : Int32) (v5 : Int64) (v7 : Int64) (v9 : Int64) (v11 : Int64), ct_Wd g A sv ws H locs → ms_Rel g ws0 ws s → lv_has ls 13 [(0, .ref (g.2.1 35)), (1, .long a1), (3, .long a2), (5, .long v5), (7, .long v7), (9, .long v9), (11, .long v11)] → bk_Mo_times_88 a1 a2 s t1 v5 v7 v9 v11 = some res → W p l e rm_Mo_times sv m args below meth c H locs 0 0 Q (F0 m 88 ls [.int t1, .ref (g.2.1 35)]) := by
    intro ws H locs ls s t1 v5 v7 v9 v11 hw hR hl h
    unfold bk_Mo_times_88 at h
    obtain ⟨hg, h⟩ := ct_gd_some h
    refine pf_Mo_97 C0 hw hR hg d_Mo_times_88 (fun ws H locs hw hR => ?_)
    obtain ⟨s1, es9, h⟩ := ct_nm_ex h
    rw [← es9] at hR
    clear es9
    refine lv_aload_n hx hb d_Mo_times_91 rfl (lv_at hl 0 rfl) ?_
    refine gf_Mo_97 C0 hw hR d_Mo_times_92 ?_
    refine lv_if_ne hx hb (tgt := 116) d_Mo_times_95 (by decide) (fun hc9 => ?_) (fun hc9 => ?_)
    · rw [if_pos hc9] at h
      obtain rfl := Option.some.inj h
      exact hret hw hR d_Mo_times_116
    · rw [if_neg (fun q => q hc9)] at h
      refine lv_aload_n hx hb d_Mo_times_98 rfl (lv_at hl 0 rfl) ?_
      refine lv_lload hx hb d_Mo_times_99 (lv_at hl 5 rfl) ?_
      refine lv_lload_n hx hb d_Mo_times_101 rfl (lv_at hl 1 rfl) ?_
      refine lv_lload hx hb d_Mo_times_102 (lv_at hl 4 rfl) ?_
      obtain ⟨hg, h⟩ := ct_gd_some h
      refine lv_ldiv hx hb d_Mo_times_104 (ct_gzL_ne hg) ?_
      refine lv_lmul hx hb d_Mo_times_105 ?_
      refine lv_lload hx hb d_Mo_times_106 (lv_at hl 6 rfl) ?_
      refine lv_lload_n hx hb d_Mo_times_108 rfl (lv_at hl 2 rfl) ?_
      refine lv_lload hx hb d_Mo_times_109 (lv_at hl 3 rfl) ?_
      obtain ⟨hg, h⟩ := ct_gd_some h
      refine lv_ldiv hx hb d_Mo_times_111 (ct_gzL_ne hg) ?_
      refine lv_lmul hx hb d_Mo_times_112 ?_
      obtain ⟨s2, ho, h⟩ := ct_ob_some h
      refine ct_callVv C0 hw hl.1 (q0 := 35) (hR.1 35 (by decide) (by decide)) rfl (ct_giV wd_894 wd_896 sel_Mo_set wd_7 wd_897) (fun sz => s_Mo_set l g ws sz hR.rf ho) (nA := 2) (rm := rm_Mo_set) (by decide +kernel) rfl ⟨rfl, rfl⟩ (by decide) (by decide) (As := [.long (v9 * (a1 / v7)), .long (v11 * (a2 / v5))]) (rest := []) rfl (Nat.le_of_ble_eq_true rfl) d_Mo_times_113 (fun ws1 H locs hw hp => ?_)
      have hR := hR.trans hp
      clear hp
      generalize ws1 = ws at hw hR
      obtain rfl := Option.some.inj h
      exact hret hw hR d_Mo_times_116
  unfold fn_Mo_times at h
  obtain ⟨ws, hwe⟩ : ∃ z : va_W, z = ws0 := ⟨_, rfl⟩
  rw [← hwe] at hw
  have hR : ms_Rel g ws0 ws s := by rw [hwe]; exact hR
  clear hwe
  refine lv_aload_n hx hb d_Mo_times_0 rfl (lv_at hl 0 rfl) ?_
  refine gf_Mo_97 C0 hw hR d_Mo_times_1 ?_
  refine lv_if_eq hx hb (tgt := 8) d_Mo_times_4 (by decide) (fun hc9 => ?_) (fun hc9 => ?_)
  · rw [if_pos hc9] at h
    refine lv_aload_n hx hb d_Mo_times_8 rfl (lv_at hl 0 rfl) ?_
    refine lv_aload_n hx hb d_Mo_times_9 rfl (lv_at hl 0 rfl) ?_
    refine lv_aload_n hx hb d_Mo_times_10 rfl (lv_at hl 0 rfl) ?_
    refine gf_Mo_114 C0 hw hR d_Mo_times_11 ?_
    obtain ⟨x3, ho, h⟩ := ct_ob_some h
    refine ct_callVl C0 hw hl.1 (q0 := 35) (hR.1 35 (by decide) (by decide)) rfl (ct_giV wd_890 wd_892 sel_Mo_size wd_7 wd_893) (fun sz => s_Mo_size l g ws sz ho) (nA := 1) (rm := rm_Mo_size) (by decide +kernel) rfl ⟨rfl, rfl⟩ (by decide) (by decide) (As := [.long (ms_L s 0)]) (rest := [.ref (g.2.1 35)]) rfl (Nat.le_of_ble_eq_true rfl) d_Mo_times_14 (fun ws1 H locs hw hp => ?_)
    rw [hp] at hw
    clear hp
    refine lv_lload_n hx hb d_Mo_times_17 rfl (lv_at hl 2 rfl) ?_
    obtain ⟨x4, ho, h⟩ := ct_ob_some h
    refine ct_callVl C0 hw hl.1 (q0 := 35) (hR.1 35 (by decide) (by decide)) rfl (ct_giV wd_834 wd_836 sel_Mo_divisor wd_7 wd_837) (fun sz => s_Mo_divisor l g ws sz ho) (nA := 2) (rm := rm_Mo_divisor) (by decide +kernel) rfl ⟨rfl, rfl⟩ (by decide) (by decide) (As := [.long x3, .long a2]) (rest := []) rfl (Nat.le_of_ble_eq_true rfl) d_Mo_times_18 (fun ws1 H locs hw hp => ?_)
    rw [hp] at hw
    clear hp
    refine lv_lstore (lv' := [(5, .long x4), (0, .ref (g.2.1 35)), (1, .long a1), (3, .long a2)]) hx hb d_Mo_times_21 hl (by decide) rfl (fun ls hl => ?_)
    refine lv_aload_n hx hb d_Mo_times_23 rfl (lv_at hl 1 rfl) ?_
    refine lv_aload_n hx hb d_Mo_times_24 rfl (lv_at hl 1 rfl) ?_
    refine lv_lload_n hx hb d_Mo_times_25 rfl (lv_at hl 2 rfl) ?_
    obtain ⟨x5, ho, h⟩ := ct_ob_some h
    refine ct_callVl C0 hw hl.1 (q0 := 35) (hR.1 35 (by decide) (by decide)) rfl (ct_giV wd_890 wd_892 sel_Mo_size wd_7 wd_893) (fun sz => s_Mo_size l g ws sz ho) (nA := 1) (rm := rm_Mo_size) (by decide +kernel) rfl ⟨rfl, rfl⟩ (by decide) (by decide) (As := [.long a1]) (rest := [.ref (g.2.1 35)]) rfl (Nat.le_of_ble_eq_true rfl) d_Mo_times_26 (fun ws1 H locs hw hp => ?_)
    rw [hp] at hw
    clear hp
    refine lv_aload_n hx hb d_Mo_times_29 rfl (lv_at hl 1 rfl) ?_
    refine gf_Mo_118 C0 hw hR d_Mo_times_30 ?_
    obtain ⟨x6, ho, h⟩ := ct_ob_some h
    refine ct_callVl C0 hw hl.1 (q0 := 35) (hR.1 35 (by decide) (by decide)) rfl (ct_giV wd_834 wd_836 sel_Mo_divisor wd_7 wd_837) (fun sz => s_Mo_divisor l g ws sz ho) (nA := 2) (rm := rm_Mo_divisor) (by decide +kernel) rfl ⟨rfl, rfl⟩ (by decide) (by decide) (As := [.long x5, .long (ms_L s 1)]) (rest := []) rfl (Nat.le_of_ble_eq_true rfl) d_Mo_times_33 (fun ws1 H locs hw hp => ?_)
    rw [hp] at hw
    clear hp
    refine lv_lstore (lv' := [(7, .long x6), (5, .long x4), (0, .ref (g.2.1 35)), (1, .long a1), (3, .long a2)]) hx hb d_Mo_times_36 hl (by decide) rfl (fun ls hl => ?_)
    refine lv_aload_n hx hb d_Mo_times_38 rfl (lv_at hl 2 rfl) ?_
    refine gf_Mo_114 C0 hw hR d_Mo_times_39 ?_
    refine lv_lload hx hb d_Mo_times_42 (lv_at hl 1 rfl) ?_
    obtain ⟨hg, h⟩ := ct_gd_some h
    refine lv_ldiv hx hb d_Mo_times_44 (ct_gzL_ne hg) ?_
    refine lv_topl (fun x7 e9 => ?_)
    have h := ct_nm_at h e9
    clear e9
    refine lv_lstore (lv' := [(9, .long x7), (7, .long x6), (5, .long x4), (0, .ref (g.2.1 35)), (1, .long a1), (3, .long a2)]) hx hb d_Mo_times_45 hl (by decide) rfl (fun ls hl => ?_)
    refine lv_aload_n hx hb d_Mo_times_47 rfl (lv_at hl 3 rfl) ?_
    refine gf_Mo_118 C0 hw hR d_Mo_times_48 ?_
    refine lv_lload hx hb d_Mo_times_51 (lv_at hl 1 rfl) ?_
    obtain ⟨hg, h⟩ := ct_gd_some h
    refine lv_ldiv hx hb d_Mo_times_53 (ct_gzL_ne hg) ?_
    refine lv_topl (fun x8 e9 => ?_)
    have h := ct_nm_at h e9
    clear e9
    refine lv_lstore (lv' := [(11, .long x8), (9, .long x7), (7, .long x6), (5, .long x4), (0, .ref (g.2.1 35)), (1, .long a1), (3, .long a2)]) hx hb d_Mo_times_54 hl (by decide) rfl (fun ls hl => ?_)
    refine lv_aload_n hx hb d_Mo_times_56 rfl (lv_at hl 4 rfl) ?_
    refine lv_aload_n hx hb d_Mo_times_57 rfl (lv_at hl 4 rfl) ?_
    refine lv_lload hx hb d_Mo_times_58 (lv_at hl 1 rfl) ?_
    refine lv_lload_n hx hb d_Mo_times_60 rfl (lv_at hl 5 rfl) ?_
    refine lv_lload hx hb d_Mo_times_61 (lv_at hl 2 rfl) ?_
    obtain ⟨hg, h⟩ := ct_gd_some h
    refine lv_ldiv hx hb d_Mo_times_63 (ct_gzL_ne hg) ?_
    obtain ⟨x9, ho, h⟩ := ct_ob_some h
    refine ct_callVi C0 hw hl.1 (q0 := 35) (hR.1 35 (by decide) (by decide)) rfl (ct_giV wd_922 wd_924 sel_Mo_isShort wd_7 wd_925) (fun sz => s_Mo_isShort l g ws sz hR.rf ho) (nA := 2) (rm := rm_Mo_isShort) (by decide +kernel) rfl ⟨rfl, rfl⟩ (by decide) (by decide) (As := [.long x7, .long (a1 / x6)]) (rest := [.ref (g.2.1 35)]) rfl (Nat.le_of_ble_eq_true rfl) d_Mo_times_64 (fun ws1 H locs hw hp => ?_)
    rw [hp] at hw
    clear hp
    refine lv_if_eq hx hb (tgt := 83) d_Mo_times_67 (by decide) (fun hc9 => ?_) (fun hc9 => ?_)
    · rw [if_pos hc9] at h
      refine lv_iconst (v := 1) hx hb d_Mo_times_83 (by decide) ?_
      refine lv_goto hx hb (tgt := 88) d_Mo_times_84 (by decide) ?_
      exact J88 ws H locs ls s 1 x4 x6 x7 x8 hw hR (lv_sub hl [4, 5, 6, 3, 2, 1, 0] rfl) h
    · rw [if_neg hc9] at h
      refine lv_aload_n hx hb d_Mo_times_70 rfl (lv_at hl 4 rfl) ?_
      refine lv_lload hx hb d_Mo_times_71 (lv_at hl 0 rfl) ?_
      refine lv_lload_n hx hb d_Mo_times_73 rfl (lv_at hl 6 rfl) ?_
      refine lv_lload hx hb d_Mo_times_74 (lv_at hl 3 rfl) ?_
      obtain ⟨hg, h⟩ := ct_gd_some h
      refine lv_ldiv hx hb d_Mo_times_76 (ct_gzL_ne hg) ?_
      obtain ⟨x10, ho, h⟩ := ct_ob_some h
      refine ct_callVi C0 hw hl.1 (q0 := 35) (hR.1 35 (by decide) (by decide)) rfl (ct_giV wd_922 wd_924 sel_Mo_isShort wd_7 wd_925) (fun sz => s_Mo_isShort l g ws sz hR.rf ho) (nA := 2) (rm := rm_Mo_isShort) (by decide +kernel) rfl ⟨rfl, rfl⟩ (by decide) (by decide) (As := [.long x8, .long (a2 / x4)]) (rest := [.ref (g.2.1 35)]) rfl (Nat.le_of_ble_eq_true rfl) d_Mo_times_77 (fun ws1 H locs hw hp => ?_)
      rw [hp] at hw
      clear hp
      refine lv_if_ne hx hb (tgt := 87) d_Mo_times_80 (by decide) (fun hc9 => ?_) (fun hc9 => ?_)
      · rw [if_pos hc9] at h
        refine lv_iconst (v := 0) hx hb d_Mo_times_87 (by decide) ?_
        exact J88 ws H locs ls s 0 x4 x6 x7 x8 hw hR (lv_sub hl [4, 5, 6, 3, 2, 1, 0] rfl) h
      · rw [if_neg (fun q => q hc9)] at h
        refine lv_iconst (v := 1) hx hb d_Mo_times_83 (by decide) ?_
        refine lv_goto hx hb (tgt := 88) d_Mo_times_84 (by decide) ?_
        exact J88 ws H locs ls s 1 x4 x6 x7 x8 hw hR (lv_sub hl [4, 5, 6, 3, 2, 1, 0] rfl) h
  · rw [if_neg hc9] at h
    obtain rfl := Option.some.inj h
    exact hret hw hR d_Mo_times_7

theorem d_Mo_plus_0 : decode c_Mo_plus 0 = .ok (.aload_n 0, 1) := by decide +kernel
theorem d_Mo_plus_1 : decode c_Mo_plus 1 = .ok (.getfield 97, 3) := by decide +kernel
theorem d_Mo_plus_4 : decode c_Mo_plus 4 = .ok (.ifCond .eq 4, 3) := by decide +kernel
theorem d_Mo_plus_7 : decode c_Mo_plus 7 = .ok (.return_, 1) := by decide +kernel
theorem d_Mo_plus_8 : decode c_Mo_plus 8 = .ok (.aload_n 0, 1) := by decide +kernel
theorem d_Mo_plus_9 : decode c_Mo_plus 9 = .ok (.getfield 118, 3) := by decide +kernel
theorem d_Mo_plus_12 : decode c_Mo_plus 12 = .ok (.aload_n 0, 1) := by decide +kernel
theorem d_Mo_plus_13 : decode c_Mo_plus 13 = .ok (.aload_n 0, 1) := by decide +kernel
theorem d_Mo_plus_14 : decode c_Mo_plus 14 = .ok (.getfield 118, 3) := by decide +kernel
theorem d_Mo_plus_17 : decode c_Mo_plus 17 = .ok (.lload_n 3, 1) := by decide +kernel
theorem d_Mo_plus_18 : decode c_Mo_plus 18 = .ok (.invokevirtual 76, 3) := by decide +kernel
theorem d_Mo_plus_21 : decode c_Mo_plus 21 = .ok (.ldiv, 1) := by decide +kernel
theorem d_Mo_plus_22 : decode c_Mo_plus 22 = .ok (.lstore 5, 2) := by decide +kernel
theorem d_Mo_plus_24 : decode c_Mo_plus 24 = .ok (.aload_n 0, 1) := by decide +kernel
theorem d_Mo_plus_25 : decode c_Mo_plus 25 = .ok (.aload_n 0, 1) := by decide +kernel
theorem d_Mo_plus_26 : decode c_Mo_plus 26 = .ok (.lload 5, 2) := by decide +kernel
theorem d_Mo_plus_28 : decode c_Mo_plus 28 = .ok (.lload_n 3, 1) := by decide +kernel
theorem d_Mo_plus_29 : decode c_Mo_plus 29 = .ok (.invokevirtual 121, 3) := by decide +kernel
theorem d_Mo_plus_32 : decode c_Mo_plus 32 = .ok (.ifCond .ne 7, 3) := by decide +kernel
theorem d_Mo_plus_35 : decode c_Mo_plus 35 = .ok (.iconst 1, 1) := by decide +kernel
theorem d_Mo_plus_36 : decode c_Mo_plus 36 = .ok (.goto 4, 3) := by decide +kernel
theorem d_Mo_plus_39 : decode c_Mo_plus 39 = .ok (.iconst 0, 1) := by decide +kernel
theorem d_Mo_plus_40 : decode c_Mo_plus 40 = .ok (.putfield 97, 3) := by decide +kernel
theorem d_Mo_plus_43 : decode c_Mo_plus 43 = .ok (.aload_n 0, 1) := by decide +kernel
theorem d_Mo_plus_44 : decode c_Mo_plus 44 = .ok (.getfield 97, 3) := by decide +kernel
theorem d_Mo_plus_47 : decode c_Mo_plus 47 = .ok (.ifCond .eq 4, 3) := by decide +kernel
theorem d_Mo_plus_50 : decode c_Mo_plus 50 = .ok (.return_, 1) := by decide +kernel
theorem d_Mo_plus_51 : decode c_Mo_plus 51 = .ok (.lload 5, 2) := by decide +kernel
theorem d_Mo_plus_53 : decode c_Mo_plus 53 = .ok (.lload_n 3, 1) := by decide +kernel
theorem d_Mo_plus_54 : decode c_Mo_plus 54 = .ok (.lmul, 1) := by decide +kernel
theorem d_Mo_plus_55 : decode c_Mo_plus 55 = .ok (.lstore 7, 2) := by decide +kernel
theorem d_Mo_plus_57 : decode c_Mo_plus 57 = .ok (.aload_n 0, 1) := by decide +kernel
theorem d_Mo_plus_58 : decode c_Mo_plus 58 = .ok (.aload_n 0, 1) := by decide +kernel
theorem d_Mo_plus_59 : decode c_Mo_plus 59 = .ok (.aload_n 0, 1) := by decide +kernel
theorem d_Mo_plus_60 : decode c_Mo_plus 60 = .ok (.getfield 114, 3) := by decide +kernel
theorem d_Mo_plus_63 : decode c_Mo_plus 63 = .ok (.lload 7, 2) := by decide +kernel
theorem d_Mo_plus_65 : decode c_Mo_plus 65 = .ok (.aload_n 0, 1) := by decide +kernel
theorem d_Mo_plus_66 : decode c_Mo_plus 66 = .ok (.getfield 118, 3) := by decide +kernel
theorem d_Mo_plus_69 : decode c_Mo_plus 69 = .ok (.ldiv, 1) := by decide +kernel
theorem d_Mo_plus_70 : decode c_Mo_plus 70 = .ok (.invokevirtual 121, 3) := by decide +kernel
theorem d_Mo_plus_73 : decode c_Mo_plus 73 = .ok (.ifCond .eq 15, 3) := by decide +kernel
theorem d_Mo_plus_76 : decode c_Mo_plus 76 = .ok (.aload_n 0, 1) := by decide +kernel
theorem d_Mo_plus_77 : decode c_Mo_plus 77 = .ok (.lload_n 1, 1) := by decide +kernel
theorem d_Mo_plus_78 : decode c_Mo_plus 78 = .ok (.lload 7, 2) := by decide +kernel
theorem d_Mo_plus_80 : decode c_Mo_plus 80 = .ok (.lload_n 3, 1) := by decide +kernel
theorem d_Mo_plus_81 : decode c_Mo_plus 81 = .ok (.ldiv, 1) := by decide +kernel
theorem d_Mo_plus_82 : decode c_Mo_plus 82 = .ok (.invokevirtual 121, 3) := by decide +kernel
theorem d_Mo_plus_85 : decode c_Mo_plus 85 = .ok (.ifCond .ne 7, 3) := by decide +kernel
theorem d_Mo_plus_88 : decode c_Mo_plus 88 = .ok (.iconst 1, 1) := by decide +kernel
theorem d_Mo_plus_89 : decode c_Mo_plus 89 = .ok (.goto 4, 3) := by decide +kernel
theorem d_Mo_plus_92 : decode c_Mo_plus 92 = .ok (.iconst 0, 1) := by decide +kernel
theorem d_Mo_plus_93 : decode c_Mo_plus 93 = .ok (.putfield 97, 3) := by decide +kernel
theorem d_Mo_plus_96 : decode c_Mo_plus 96 = .ok (.aload_n 0, 1) := by decide +kernel
theorem d_Mo_plus_97 : decode c_Mo_plus 97 = .ok (.getfield 97, 3) := by decide +kernel
theorem d_Mo_plus_100 : decode c_Mo_plus 100 = .ok (.ifCond .eq 4, 3) := by decide +kernel
theorem d_Mo_plus_103 : decode c_Mo_plus 103 = .ok (.return_, 1) := by decide +kernel
theorem d_Mo_plus_104 : decode c_Mo_plus 104 = .ok (.aload_n 0, 1) := by decide +kernel
theorem d_Mo_plus_105 : decode c_Mo_plus 105 = .ok (.getfield 114, 3) := by decide +kernel
theorem d_Mo_plus_108 : decode c_Mo_plus 108 = .ok (.lload 7, 2) := by decide +kernel
theorem d_Mo_plus_110 : decode c_Mo_plus 110 = .ok (.aload_n 0, 1) := by decide +kernel
theorem d_Mo_plus_111 : decode c_Mo_plus 111 = .ok (.getfield 118, 3) := by decide +kernel
theorem d_Mo_plus_114 : decode c_Mo_plus 114 = .ok (.ldiv, 1) := by decide +kernel
theorem d_Mo_plus_115 : decode c_Mo_plus 115 = .ok (.lmul, 1) := by decide +kernel
theorem d_Mo_plus_116 : decode c_Mo_plus 116 = .ok (.lstore 9, 2) := by decide +kernel
theorem d_Mo_plus_118 : decode c_Mo_plus 118 = .ok (.lload_n 1, 1) := by decide +kernel
theorem d_Mo_plus_119 : decode c_Mo_plus 119 = .ok (.lload 7, 2) := by decide +kernel
theorem d_Mo_plus_121 : decode c_Mo_plus 121 = .ok (.lload_n 3, 1) := by decide +kernel
theorem d_Mo_plus_122 : decode c_Mo_plus 122 = .ok (.ldiv, 1) := by decide +kernel
theorem d_Mo_plus_123 : decode c_Mo_plus 123 = .ok (.lmul, 1) := by decide +kernel
theorem d_Mo_plus_124 : decode c_Mo_plus 124 = .ok (.lstore 11, 2) := by decide +kernel
theorem d_Mo_plus_126 : decode c_Mo_plus 126 = .ok (.aload_n 0, 1) := by decide +kernel
theorem d_Mo_plus_127 : decode c_Mo_plus 127 = .ok (.lload 11, 2) := by decide +kernel
theorem d_Mo_plus_129 : decode c_Mo_plus 129 = .ok (.lconst 0, 1) := by decide +kernel
theorem d_Mo_plus_130 : decode c_Mo_plus 130 = .ok (.lcmp, 1) := by decide +kernel
theorem d_Mo_plus_131 : decode c_Mo_plus 131 = .ok (.ifCond .le 23, 3) := by decide +kernel
theorem d_Mo_plus_134 : decode c_Mo_plus 134 = .ok (.lload 9, 2) := by decide +kernel
theorem d_Mo_plus_136 : decode c_Mo_plus 136 = .ok (.ldc2_w 112, 3) := by decide +kernel
theorem d_Mo_plus_139 : decode c_Mo_plus 139 = .ok (.lload 11, 2) := by decide +kernel
theorem d_Mo_plus_141 : decode c_Mo_plus 141 = .ok (.lsub, 1) := by decide +kernel
theorem d_Mo_plus_142 : decode c_Mo_plus 142 = .ok (.lcmp, 1) := by decide +kernel
theorem d_Mo_plus_143 : decode c_Mo_plus 143 = .ok (.ifCond .le 7, 3) := by decide +kernel
theorem d_Mo_plus_146 : decode c_Mo_plus 146 = .ok (.iconst 1, 1) := by decide +kernel
theorem d_Mo_plus_147 : decode c_Mo_plus 147 = .ok (.goto 24, 3) := by decide +kernel
theorem d_Mo_plus_150 : decode c_Mo_plus 150 = .ok (.iconst 0, 1) := by decide +kernel
theorem d_Mo_plus_151 : decode c_Mo_plus 151 = .ok (.goto 20, 3) := by decide +kernel
theorem d_Mo_plus_154 : decode c_Mo_plus 154 = .ok (.lload 9, 2) := by decide +kernel
theorem d_Mo_plus_156 : decode c_Mo_plus 156 = .ok (.ldc2_w 129, 3) := by decide +kernel
theorem d_Mo_plus_159 : decode c_Mo_plus 159 = .ok (.lload 11, 2) := by decide +kernel
theorem d_Mo_plus_161 : decode c_Mo_plus 161 = .ok (.lsub, 1) := by decide +kernel
theorem d_Mo_plus_162 : decode c_Mo_plus 162 = .ok (.lcmp, 1) := by decide +kernel
theorem d_Mo_plus_163 : decode c_Mo_plus 163 = .ok (.ifCond .ge 7, 3) := by decide +kernel
theorem d_Mo_plus_166 : decode c_Mo_plus 166 = .ok (.iconst 1, 1) := by decide +kernel
theorem d_Mo_plus_167 : decode c_Mo_plus 167 = .ok (.goto 4, 3) := by decide +kernel
theorem d_Mo_plus_170 : decode c_Mo_plus 170 = .ok (.iconst 0, 1) := by decide +kernel
theorem d_Mo_plus_171 : decode c_Mo_plus 171 = .ok (.putfield 97, 3) := by decide +kernel
theorem d_Mo_plus_174 : decode c_Mo_plus 174 = .ok (.aload_n 0, 1) := by decide +kernel
theorem d_Mo_plus_175 : decode c_Mo_plus 175 = .ok (.getfield 97, 3) := by decide +kernel
theorem d_Mo_plus_178 : decode c_Mo_plus 178 = .ok (.ifCond .ne 37, 3) := by decide +kernel
theorem d_Mo_plus_181 : decode c_Mo_plus 181 = .ok (.aload_n 0, 1) := by decide +kernel
theorem d_Mo_plus_182 : decode c_Mo_plus 182 = .ok (.aload_n 0, 1) := by decide +kernel
theorem d_Mo_plus_183 : decode c_Mo_plus 183 = .ok (.lload 9, 2) := by decide +kernel
theorem d_Mo_plus_185 : decode c_Mo_plus 185 = .ok (.lload 11, 2) := by decide +kernel
theorem d_Mo_plus_187 : decode c_Mo_plus 187 = .ok (.ladd, 1) := by decide +kernel
theorem d_Mo_plus_188 : decode c_Mo_plus 188 = .ok (.invokevirtual 108, 3) := by decide +kernel
theorem d_Mo_plus_191 : decode c_Mo_plus 191 = .ok (.lload 7, 2) := by decide +kernel
theorem d_Mo_plus_193 : decode c_Mo_plus 193 = .ok (.invokevirtual 76, 3) := by decide +kernel
theorem d_Mo_plus_196 : decode c_Mo_plus 196 = .ok (.lstore 13, 2) := by decide +kernel
theorem d_Mo_plus_198 : decode c_Mo_plus 198 = .ok (.aload_n 0, 1) := by decide +kernel
theorem d_Mo_plus_199 : decode c_Mo_plus 199 = .ok (.lload 9, 2) := by decide +kernel
theorem d_Mo_plus_201 : decode c_Mo_plus 201 = .ok (.lload 11, 2) := by decide +kernel
theorem d_Mo_plus_203 : decode c_Mo_plus 203 = .ok (.ladd, 1) := by decide +kernel
theorem d_Mo_plus_204 : decode c_Mo_plus 204 = .ok (.lload 13, 2) := by decide +kernel
theorem d_Mo_plus_206 : decode c_Mo_plus 206 = .ok (.ldiv, 1) := by decide +kernel
theorem d_Mo_plus_207 : decode c_Mo_plus 207 = .ok (.lload 7, 2) := by decide +kernel
theorem d_Mo_plus_209 : decode c_Mo_plus 209 = .ok (.lload 13, 2) := by decide +kernel
theorem d_Mo_plus_211 : decode c_Mo_plus 211 = .ok (.ldiv, 1) := by decide +kernel
theorem d_Mo_plus_212 : decode c_Mo_plus 212 = .ok (.invokevirtual 125, 3) := by decide +kernel
theorem d_Mo_plus_215 : decode c_Mo_plus 215 = .ok (.return_, 1) := by decide +kernel
set_option maxHeartbeats 4000000 in
set_option maxRecDepth 100000 in
theorem s_Mo_plus (l : Launch) (g : Gx) (ws0 : va_W) (sz : Nat) {s : MS} {a1 : Int64} {a2 : Int64} {res : MS} (hR : ms_Rel g ws0 ws0 s) (h : fn_Mo_plus s a1 a2 = some res) : ct_MV l y_Mo_plus c_Mo_plus 15 none rm_Mo_plus g ws0 sz [.ref (g.2.1 35), .long a1, .long a2]  (fun u => ms_Rel g ws0 u res) := by
  refine ct_startv (by decide +kernel) (Nat.le_of_ble_eq_true rfl) (fun p e sv m args below meth c ls Q A H locs C0 hret hl hw => ?_)
  have hx := C0.1
  have hb := C0.2.1
  have hown := C0.2.2.2.1
  have hts := C0.2.2.2.2.1
  have hl : lv_has ls 15 [(0, .ref (g.2.1 35)), (1, .long a1), (3, .long a2)] := hl
  have J171 : ∀ (ws : va_W) (H : Heap) (locs : List Loc) (ls : Array Slot) (s : MS) (t1 : Int32) (v7 : Int64) (v9 : Int64) (v11 : Int64), ct_Wd g A sv ws H locs → ms_Rel g ws0 ws s → lv_has ls 15 [(0, .ref (g.2.1 35)), (7, .long v7), (9, .long v9), (11, .long v11)] → bk_Mo_plus_171 a1 a2 s t1 v7 v9 v11 = some res → W p l e rm_Mo_plus sv m args below meth c H locs 0 0 Q (F0 m 171 ls [.int t1, .ref (g.2.1 35)]) := by
    intro ws H locs ls s t1 v7 v9 v11 hw hR hl h
    unfold bk_Mo_plus_171 at h
    obtain ⟨hg, h⟩ := ct_gd_some h
    refine pf_Mo_97 C0 hw hR hg d_Mo_plus_171 (fun ws H locs hw hR => ?_)
    obtain ⟨s1, es9, h⟩ := ct_nm_ex h
    rw [← es9] at hR
    clear es9
    refine lv_aload_n hx hb d_Mo_plus_174 rfl (lv_at hl 0 rfl) ?_
    refine gf_Mo_97 C0 hw hR d_Mo_plus_175 ?_
    refine lv_if_ne hx hb (tgt := 215) d_Mo_plus_178 (by decide) (fun hc9 => ?_) (fun hc9 => ?_)
    · rw [if_pos hc9] at h
      obtain rfl := Option.some.inj h
      exact hret hw hR d_Mo_plus_215
    · rw [if_neg (fun q => q hc9)] at h
      refine lv_aload_n hx hb d_Mo_plus_181 rfl (lv_at hl 0 rfl) ?_
      refine lv_aload_n hx hb d_Mo_plus_182 rfl (lv_at hl 0 rfl) ?_
      refine lv_lload hx hb d_Mo_plus_183 (lv_at hl 2 rfl) ?_
      refine lv_lload hx hb d_Mo_plus_185 (lv_at hl 3 rfl) ?_
      refine lv_ladd hx hb d_Mo_plus_187 ?_
      obtain ⟨x2, ho, h⟩ := ct_ob_some h
      refine ct_callVl C0 hw hl.1 (q0 := 35) (hR.1 35 (by decide) (by decide)) rfl (ct_giV wd_890 wd_892 sel_Mo_size wd_7 wd_893) (fun sz => s_Mo_size l g ws sz ho) (nA := 1) (rm := rm_Mo_size) (by decide +kernel) rfl ⟨rfl, rfl⟩ (by decide) (by decide) (As := [.long (v9 + v11)]) (rest := [.ref (g.2.1 35)]) rfl (Nat.le_of_ble_eq_true rfl) d_Mo_plus_188 (fun ws1 H locs hw hp => ?_)
      rw [hp] at hw
      clear hp
      refine lv_lload hx hb d_Mo_plus_191 (lv_at hl 1 rfl) ?_
      obtain ⟨x3, ho, h⟩ := ct_ob_some h
      refine ct_callVl C0 hw hl.1 (q0 := 35) (hR.1 35 (by decide) (by decide)) rfl (ct_giV wd_834 wd_836 sel_Mo_divisor wd_7 wd_837) (fun sz => s_Mo_divisor l g ws sz ho) (nA := 2) (rm := rm_Mo_divisor) (by decide +kernel) rfl ⟨rfl, rfl⟩ (by decide) (by decide) (As := [.long x2, .long v7]) (rest := []) rfl (Nat.le_of_ble_eq_true rfl) d_Mo_plus_193 (fun ws1 H locs hw hp => ?_)
      rw [hp] at hw
      clear hp
      refine lv_lstore (lv' := [(13, .long x3), (0, .ref (g.2.1 35)), (7, .long v7), (9, .long v9), (11, .long v11)]) hx hb d_Mo_plus_196 hl (by decide) rfl (fun ls hl => ?_)
      refine lv_aload_n hx hb d_Mo_plus_198 rfl (lv_at hl 1 rfl) ?_
      refine lv_lload hx hb d_Mo_plus_199 (lv_at hl 3 rfl) ?_
      refine lv_lload hx hb d_Mo_plus_201 (lv_at hl 4 rfl) ?_
      refine lv_ladd hx hb d_Mo_plus_203 ?_
      refine lv_lload hx hb d_Mo_plus_204 (lv_at hl 0 rfl) ?_
      obtain ⟨hg, h⟩ := ct_gd_some h
      refine lv_ldiv hx hb d_Mo_plus_206 (ct_gzL_ne hg) ?_
      refine lv_lload hx hb d_Mo_plus_207 (lv_at hl 2 rfl) ?_
      refine lv_lload hx hb d_Mo_plus_209 (lv_at hl 0 rfl) ?_
      obtain ⟨hg, h⟩ := ct_gd_some h
      refine lv_ldiv hx hb d_Mo_plus_211 (ct_gzL_ne hg) ?_
      obtain ⟨s4, ho, h⟩ := ct_ob_some h
      refine ct_callVv C0 hw hl.1 (q0 := 35) (hR.1 35 (by decide) (by decide)) rfl (ct_giV wd_894 wd_896 sel_Mo_set wd_7 wd_897) (fun sz => s_Mo_set l g ws sz hR.rf ho) (nA := 2) (rm := rm_Mo_set) (by decide +kernel) rfl ⟨rfl, rfl⟩ (by decide) (by decide) (As := [.long ((v9 + v11) / x3), .long (v7 / x3)]) (rest := []) rfl (Nat.le_of_ble_eq_true rfl) d_Mo_plus_212 (fun ws1 H locs hw hp => ?_)
      have hR := hR.trans hp
      clear hp
      generalize ws1 = ws at hw hR
      obtain rfl := Option.some.inj h
      exact hret hw hR d_Mo_plus_215
  have J93 : ∀ (ws : va_W) (H : Heap) (locs : List Loc) (ls : Array Slot) (s : MS) (t1 : Int32) (v7 : Int64), ct_Wd g A sv ws H locs → ms_Rel g ws0 ws s → lv_has ls 15 [(0, .ref (g.2.1 35)), (1, .long a1), (3, .long a2), (7, .long v7)] → bk_Mo_plus_93 a1 a2 s t1 v7 = some res → W p l e rm_Mo_plus sv m args below meth c H locs 0 0 Q (F0 m 93 ls [.int t1, .ref (g.2.1 35)]) := by
    intro ws H locs ls s t1 v7 hw hR hl h
    unfold bk_Mo_plus_93 at h
    obtain ⟨hg, h⟩ := ct_gd_some h
    refine pf_Mo_97 C0 hw hR hg d_Mo_plus_93 (fun ws H locs hw hR => ?_)
    obtain ⟨s5, es9, h⟩ := ct_nm_ex h
    rw [← es9] at hR
    clear es9
    refine lv_aload_n hx hb d_Mo_plus_96 rfl (lv_at hl 0 rfl) ?_
    refine gf_Mo_97 C0 hw hR d_Mo_plus_97 ?_
    refine lv_if_eq hx hb (tgt := 104) d_Mo_plus_100 (by decide) (fun hc9 => ?_) (fun hc9 => ?_)
    · rw [if_pos hc9] at h
      refine lv_aload_n hx hb d_Mo_plus_104 rfl (lv_at hl 0 rfl) ?_
      refine gf_Mo_114 C0 hw hR d_Mo_plus_105 ?_
      refine lv_lload hx hb d_Mo_plus_108 (lv_at hl 3 rfl) ?_
      refine lv_aload_n hx hb d_Mo_plus_110 rfl (lv_at hl 0 rfl) ?_
      refine gf_Mo_118 C0 hw hR d_Mo_plus_111 ?_
      obtain ⟨hg, h⟩ := ct_gd_some h
      refine lv_ldiv hx hb d_Mo_plus_114 (ct_gzL_ne hg) ?_
      refine lv_lmul hx hb d_Mo_plus_115 ?_
      refine lv_topl (fun x6 e9 => ?_)
      have h := ct_nm_at h e9
      clear e9
      refine lv_lstore (lv' := [(9, .long x6), (0, .ref (g.2.1 35)), (1, .long a1), (3, .long a2), (7, .long v7)]) hx hb d_Mo_plus_116 hl (by decide) rfl (fun ls hl => ?_)
      refine lv_lload_n hx hb d_Mo_plus_118 rfl (lv_at hl 2 rfl) ?_
      refine lv_lload hx hb d_Mo_plus_119 (lv_at hl 4 rfl) ?_
      refine lv_lload_n hx hb d_Mo_plus_121 rfl (lv_at hl 3 rfl) ?_
      obtain ⟨hg, h⟩ := ct_gd_some h
      refine lv_ldiv hx hb d_Mo_plus_122 (ct_gzL_ne hg) ?_
      refine lv_lmul hx hb d_Mo_plus_123 ?_
      refine lv_topl (fun x7 e9 => ?_)
      have h := ct_nm_at h e9
      clear e9
      refine lv_lstore (lv' := [(11, .long x7), (9, .long x6), (0, .ref (g.2.1 35)), (1, .long a1), (3, .long a2), (7, .long v7)]) hx hb d_Mo_plus_124 hl (by decide) rfl (fun ls hl => ?_)
      refine lv_aload_n hx hb d_Mo_plus_126 rfl (lv_at hl 2 rfl) ?_
      refine lv_lload hx hb d_Mo_plus_127 (lv_at hl 0 rfl) ?_
      refine lv_lconst (v := 0) hx hb d_Mo_plus_129 (by decide) ?_
      refine W.lcmp hx hb d_Mo_plus_130 ?_
      refine lv_if_le hx hb (tgt := 154) d_Mo_plus_131 (by decide) (fun hc9 => ?_) (fun hc9 => ?_)
      · rw [if_pos hc9] at h
        refine lv_lload hx hb d_Mo_plus_154 (lv_at hl 1 rfl) ?_
        refine lv_ldc2 (v := (-4611686018427387904)) hx hb hown (hts _ wd_951) d_Mo_plus_156 ?_
        refine lv_lload hx hb d_Mo_plus_159 (lv_at hl 0 rfl) ?_
        refine lv_lsub hx hb d_Mo_plus_161 ?_
        refine W.lcmp hx hb d_Mo_plus_162 ?_
        refine lv_if_ge hx hb (tgt := 170) d_Mo_plus_163 (by decide) (fun hc9 => ?_) (fun hc9 => ?_)
        · rw [if_pos hc9] at h
          refine lv_iconst (v := 0) hx hb d_Mo_plus_170 (by decide) ?_
          exact J171 ws H locs ls s5 0 v7 x6 x7 hw hR (lv_sub hl [2, 5, 1, 0] rfl) h
        · rw [if_neg hc9] at h
          refine lv_iconst (v := 1) hx hb d_Mo_plus_166 (by decide) ?_
          refine lv_goto hx hb (tgt := 171) d_Mo_plus_167 (by decide) ?_
          exact J171 ws H locs ls s5 1 v7 x6 x7 hw hR (lv_sub hl [2, 5, 1, 0] rfl) h
      · rw [if_neg hc9] at h
        refine lv_lload hx hb d_Mo_plus_134 (lv_at hl 1 rfl) ?_
        refine lv_ldc2 (v := 4611686018427387904) hx hb hown (hts _ wd_926) d_Mo_plus_136 ?_
        refine lv_lload hx hb d_Mo_plus_139 (lv_at hl 0 rfl) ?_
        refine lv_lsub hx hb d_Mo_plus_141 ?_
        refine W.lcmp hx hb d_Mo_plus_142 ?_
        refine lv_if_le hx hb (tgt := 150) d_Mo_plus_143 (by decide) (fun hc9 => ?_) (fun hc9 => ?_)
        · rw [if_pos hc9] at h
          refine lv_iconst (v := 0) hx hb d_Mo_plus_150 (by decide) ?_
          refine lv_goto hx hb (tgt := 171) d_Mo_plus_151 (by decide) ?_
          exact J171 ws H locs ls s5 0 v7 x6 x7 hw hR (lv_sub hl [2, 5, 1, 0] rfl) h
        · rw [if_neg hc9] at h
          refine lv_iconst (v := 1) hx hb d_Mo_plus_146 (by decide) ?_
          refine lv_goto hx hb (tgt := 171) d_Mo_plus_147 (by decide) ?_
          exact J171 ws H locs ls s5 1 v7 x6 x7 hw hR (lv_sub hl [2, 5, 1, 0] rfl) h
    · rw [if_neg hc9] at h
      obtain rfl := Option.some.inj h
      exact hret hw hR d_Mo_plus_103
  have J40 : ∀ (ws : va_W) (H : Heap) (locs : List Loc) (ls : Array Slot) (s : MS) (t1 : Int32) (v5 : Int64), ct_Wd g A sv ws H locs → ms_Rel g ws0 ws s → lv_has ls 15 [(0, .ref (g.2.1 35)), (1, .long a1), (3, .long a2), (5, .long v5)] → bk_Mo_plus_40 a1 a2 s t1 v5 = some res → W p l e rm_Mo_plus sv m args below meth c H locs 0 0 Q (F0 m 40 ls [.int t1, .ref (g.2.1 35)]) := by
    intro ws H locs ls s t1 v5 hw hR hl h
    unfold bk_Mo_plus_40 at h
    obtain ⟨hg, h⟩ := ct_gd_some h
    refine pf_Mo_97 C0 hw hR hg d_Mo_plus_40 (fun ws H locs hw hR => ?_)
    obtain ⟨s8, es9, h⟩ := ct_nm_ex h
    rw [← es9] at hR
    clear es9
    refine lv_aload_n hx hb d_Mo_plus_43 rfl (lv_at hl 0 rfl) ?_
    refine gf_Mo_97 C0 hw hR d_Mo_plus_44 ?_
    refine lv_if_eq hx hb (tgt := 51) d_Mo_plus_47 (by decide) (fun hc9 => ?_) (fun hc9 => ?_)
    · rw [if_pos hc9] at h
      refine lv_lload hx hb d_Mo_plus_51 (lv_at hl 3 rfl) ?_
      refine lv_lload_n hx hb d_Mo_plus_53 rfl (lv_at hl 2 rfl) ?_
      refine lv_lmul hx hb d_Mo_plus_54 ?_
      refine lv_topl (fun x9 e9 => ?_)
      have h := ct_nm_at h e9
      clear e9
      refine lv_lstore (lv' := [(7, .long x9), (0, .ref (g.2.1 35)), (1, .long a1), (3, .long a2), (5, .long v5)]) hx hb d_Mo_plus_55 hl (by decide) rfl (fun ls hl => ?_)
      refine lv_aload_n hx hb d_Mo_plus_57 rfl (lv_at hl 1 rfl) ?_
      refine lv_aload_n hx hb d_Mo_plus_58 rfl (lv_at hl 1 rfl) ?_
      refine lv_aload_n hx hb d_Mo_plus_59 rfl (lv_at hl 1 rfl) ?_
      refine gf_Mo_114 C0 hw hR d_Mo_plus_60 ?_
      refine lv_lload hx hb d_Mo_plus_63 (lv_at hl 0 rfl) ?_
      refine lv_aload_n hx hb d_Mo_plus_65 rfl (lv_at hl 1 rfl) ?_
      refine gf_Mo_118 C0 hw hR d_Mo_plus_66 ?_
      obtain ⟨hg, h⟩ := ct_gd_some h
      refine lv_ldiv hx hb d_Mo_plus_69 (ct_gzL_ne hg) ?_
      obtain ⟨x10, ho, h⟩ := ct_ob_some h
      refine ct_callVi C0 hw hl.1 (q0 := 35) (hR.1 35 (by decide) (by decide)) rfl (ct_giV wd_922 wd_924 sel_Mo_isShort wd_7 wd_925) (fun sz => s_Mo_isShort l g ws sz hR.rf ho) (nA := 2) (rm := rm_Mo_isShort) (by decide +kernel) rfl ⟨rfl, rfl⟩ (by decide) (by decide) (As := [.long (ms_L s8 0), .long (x9 / (ms_L s8 1))]) (rest := [.ref (g.2.1 35)]) rfl (Nat.le_of_ble_eq_true rfl) d_Mo_plus_70 (fun ws1 H locs hw hp => ?_)
      rw [hp] at hw
      clear hp
      refine lv_if_eq hx hb (tgt := 88) d_Mo_plus_73 (by decide) (fun hc9 => ?_) (fun hc9 => ?_)
      · rw [if_pos hc9] at h
        refine lv_iconst (v := 1) hx hb d_Mo_plus_88 (by decide) ?_
        refine lv_goto hx hb (tgt := 93) d_Mo_plus_89 (by decide) ?_
        exact J93 ws H locs ls s8 1 x9 hw hR (lv_sub hl [1, 2, 3, 0] rfl) h
      · rw [if_neg hc9] at h
        refine lv_aload_n hx hb d_Mo_plus_76 rfl (lv_at hl 1 rfl) ?_
        refine lv_lload_n hx hb d_Mo_plus_77 rfl (lv_at hl 2 rfl) ?_
        refine lv_lload hx hb d_Mo_plus_78 (lv_at hl 0 rfl) ?_
        refine lv_lload_n hx hb d_Mo_plus_80 rfl (lv_at hl 3 rfl) ?_
        obtain ⟨hg, h⟩ := ct_gd_some h
        refine lv_ldiv hx hb d_Mo_plus_81 (ct_gzL_ne hg) ?_
        obtain ⟨x11, ho, h⟩ := ct_ob_some h
        refine ct_callVi C0 hw hl.1 (q0 := 35) (hR.1 35 (by decide) (by decide)) rfl (ct_giV wd_922 wd_924 sel_Mo_isShort wd_7 wd_925) (fun sz => s_Mo_isShort l g ws sz hR.rf ho) (nA := 2) (rm := rm_Mo_isShort) (by decide +kernel) rfl ⟨rfl, rfl⟩ (by decide) (by decide) (As := [.long a1, .long (x9 / a2)]) (rest := [.ref (g.2.1 35)]) rfl (Nat.le_of_ble_eq_true rfl) d_Mo_plus_82 (fun ws1 H locs hw hp => ?_)
        rw [hp] at hw
        clear hp
        refine lv_if_ne hx hb (tgt := 92) d_Mo_plus_85 (by decide) (fun hc9 => ?_) (fun hc9 => ?_)
        · rw [if_pos hc9] at h
          refine lv_iconst (v := 0) hx hb d_Mo_plus_92 (by decide) ?_
          exact J93 ws H locs ls s8 0 x9 hw hR (lv_sub hl [1, 2, 3, 0] rfl) h
        · rw [if_neg (fun q => q hc9)] at h
          refine lv_iconst (v := 1) hx hb d_Mo_plus_88 (by decide) ?_
          refine lv_goto hx hb (tgt := 93) d_Mo_plus_89 (by decide) ?_
          exact J93 ws H locs ls s8 1 x9 hw hR (lv_sub hl [1, 2, 3, 0] rfl) h
    · rw [if_neg hc9] at h
      obtain rfl := Option.some.inj h
      exact hret hw hR d_Mo_plus_50
  unfold fn_Mo_plus at h
  obtain ⟨ws, hwe⟩ : ∃ z : va_W, z = ws0 := ⟨_, rfl⟩
  rw [← hwe] at hw
  have hR : ms_Rel g ws0 ws s := by rw [hwe]; exact hR
  clear hwe
  refine lv_aload_n hx hb d_Mo_plus_0 rfl (lv_at hl 0 rfl) ?_
  refine gf_Mo_97 C0 hw hR d_Mo_plus_1 ?_
  refine lv_if_eq hx hb (tgt := 8) d_Mo_plus_4 (by decide) (fun hc9 => ?_) (fun hc9 => ?_)
  · rw [if_pos hc9] at h
    refine lv_aload_n hx hb d_Mo_plus_8 rfl (lv_at hl 0 rfl) ?_
    refine gf_Mo_118 C0 hw hR d_Mo_plus_9 ?_
    refine lv_aload_n hx hb d_Mo_plus_12 rfl (lv_at hl 0 rfl) ?_
    refine lv_aload_n hx hb d_Mo_plus_13 rfl (lv_at hl 0 rfl) ?_
    refine gf_Mo_118 C0 hw hR d_Mo_plus_14 ?_
    refine lv_lload_n hx hb d_Mo_plus_17 rfl (lv_at hl 2 rfl) ?_
    obtain ⟨x12, ho, h⟩ := ct_ob_some h
    refine ct_callVl C0 hw hl.1 (q0 := 35) (hR.1 35 (by decide) (by decide)) rfl (ct_giV wd_834 wd_836 sel_Mo_divisor wd_7 wd_837) (fun sz => s_Mo_divisor l g ws sz ho) (nA := 2) (rm := rm_Mo_divisor) (by decide +kernel) rfl ⟨rfl, rfl⟩ (by decide) (by decide) (As := [.long (ms_L s 1), .long a2]) (rest := [.long (ms_L s 1)]) rfl (Nat.le_of_ble_eq_true rfl) d_Mo_plus_18 (fun ws1 H locs hw hp => ?_)
    rw [hp] at hw
    clear hp
    obtain ⟨hg, h⟩ := ct_gd_some h
    refine lv_ldiv hx hb d_Mo_plus_21 (ct_gzL_ne hg) ?_
    refine lv_topl (fun x13 e9 => ?_)
    have h := ct_nm_at h e9
    clear e9
    refine lv_lstore (lv' := [(5, .long x13), (0, .ref (g.2.1 35)), (1, .long a1), (3, .long a2)]) hx hb d_Mo_plus_22 hl (by decide) rfl (fun ls hl => ?_)
    refine lv_aload_n hx hb d_Mo_plus_24 rfl (lv_at hl 1 rfl) ?_
    refine lv_aload_n hx hb d_Mo_plus_25 rfl (lv_at hl 1 rfl) ?_
    refine lv_lload hx hb d_Mo_plus_26 (lv_at hl 0 rfl) ?_
    refine lv_lload_n hx hb d_Mo_plus_28 rfl (lv_at hl 3 rfl) ?_
    obtain ⟨x14, ho, h⟩ := ct_ob_some h
    refine ct_callVi C0 hw hl.1 (q0 := 35) (hR.1 35 (by decide) (by decide)) rfl (ct_giV wd_922 wd_924 sel_Mo_isShort wd_7 wd_925) (fun sz => s_Mo_isShort l g ws sz hR.rf ho) (nA := 2) (rm := rm_Mo_isShort) (by decide +kernel) rfl ⟨rfl, rfl⟩ (by decide) (by decide) (As := [.long x13, .long a2]) (rest := [.ref (g.2.1 35)]) rfl (Nat.le_of_ble_eq_true rfl) d_Mo_plus_29 (fun ws1 H locs hw hp => ?_)
    rw [hp] at hw
    clear hp
    refine lv_if_ne hx hb (tgt := 39) d_Mo_plus_32 (by decide) (fun hc9 => ?_) (fun hc9 => ?_)
    · rw [if_pos hc9] at h
      refine lv_iconst (v := 0) hx hb d_Mo_plus_39 (by decide) ?_
      exact J40 ws H locs ls s 0 x13 hw hR (lv_sub hl [1, 2, 3, 0] rfl) h
    · rw [if_neg (fun q => q hc9)] at h
      refine lv_iconst (v := 1) hx hb d_Mo_plus_35 (by decide) ?_
      refine lv_goto hx hb (tgt := 40) d_Mo_plus_36 (by decide) ?_
      exact J40 ws H locs ls s 1 x13 hw hR (lv_sub hl [1, 2, 3, 0] rfl) h
  · rw [if_neg hc9] at h
    obtain rfl := Option.some.inj h
    exact hret hw hR d_Mo_plus_7

