theorem d_CT_cell_0 : decode c_CT_cell 0 = .ok (.iload_n 1, 1) := by decide +kernel
theorem d_CT_cell_1 : decode c_CT_cell 1 = .ok (.iload_n 2, 1) := by decide +kernel
theorem d_CT_cell_2 : decode c_CT_cell 2 = .ok (.aload_n 0, 1) := by decide +kernel
theorem d_CT_cell_3 : decode c_CT_cell 3 = .ok (.getfield 27, 3) := by decide +kernel
theorem d_CT_cell_6 : decode c_CT_cell 6 = .ok (.invokevirtual 104, 3) := by decide +kernel
theorem d_CT_cell_9 : decode c_CT_cell 9 = .ok (.invokestatic 108, 3) := by decide +kernel
theorem d_CT_cell_12 : decode c_CT_cell 12 = .ok (.invokestatic 37, 3) := by decide +kernel
theorem d_CT_cell_15 : decode c_CT_cell 15 = .ok (.aload_n 0, 1) := by decide +kernel
theorem d_CT_cell_16 : decode c_CT_cell 16 = .ok (.getfield 27, 3) := by decide +kernel
theorem d_CT_cell_19 : decode c_CT_cell 19 = .ok (.getfield 111, 3) := by decide +kernel
theorem d_CT_cell_22 : decode c_CT_cell 22 = .ok (.iload_n 1, 1) := by decide +kernel
theorem d_CT_cell_23 : decode c_CT_cell 23 = .ok (.aaload, 1) := by decide +kernel
theorem d_CT_cell_24 : decode c_CT_cell 24 = .ok (.iload_n 2, 1) := by decide +kernel
theorem d_CT_cell_25 : decode c_CT_cell 25 = .ok (.iaload, 1) := by decide +kernel
theorem d_CT_cell_26 : decode c_CT_cell 26 = .ok (.ireturn, 1) := by decide +kernel
set_option maxHeartbeats 4000000 in
set_option maxRecDepth 100000 in
theorem s_CT_cell (l : Launch) (g : Gx) (ws0 : va_W) (sz : Nat) {s : CS} {a1 : Int32} {a2 : Int32} {res : ((Nat × CS) ⊕ (Int32 × CS))} (hR : cs_Rel g ws0 ws0 s) (hl0 : l.stackTraces = false) (h : fn_CT_cell s a1 a2 = some res) : ct_XI l y_CT_cell c_CT_cell 3 (some .int) rm_CT_cell g ws0 sz [.ref (g.2.1 0), .int a1, .int a2] res 1 6 := by
  refine ct_startXi hl0 (by decide +kernel) rfl (Nat.le_of_ble_eq_true rfl) (fun p e sv m args below meth c ls Q A H locs C0 hret hout hthr hl hw => ?_)
  have hx := C0.1
  have hb := C0.2.1
  have hown := C0.2.2.2.1
  have hts := C0.2.2.2.2.1
  have hl : lv_has ls 3 [(0, .ref (g.2.1 0)), (1, .int a1), (2, .int a2)] := hl
  unfold fn_CT_cell at h
  obtain ⟨ws, hwe⟩ : ∃ z : va_W, z = ws0 := ⟨_, rfl⟩
  rw [← hwe] at hw
  have hR : cs_Rel g ws0 ws s := by rw [hwe]; exact hR
  clear hwe
  refine lv_iload_n hx hb d_CT_cell_0 rfl (lv_at hl 1 rfl) ?_
  refine lv_iload_n hx hb d_CT_cell_1 rfl (lv_at hl 2 rfl) ?_
  refine lv_aload_n hx hb d_CT_cell_2 rfl (lv_at hl 0 rfl) ?_
  refine gf_CT_27 C0 hw hR d_CT_cell_3 ?_
  obtain ⟨x1, ho, h⟩ := ct_ob_some h
  refine ct_callVi C0 hw hl.1 (q0 := 2) (hR.1 2 (by decide)) rfl (ct_giV wd_423 wd_424 wd_425 wd_4 wd_426) (fun sz => s_Tr_shown l g ws sz hR.rf ho) (nA := 0) (rm := rm_Tr_shown) (by decide +kernel) rfl ⟨rfl, rfl⟩ (by decide) (by decide) (As := []) (rest := [.int a2, .int a1]) rfl (Nat.le_of_ble_eq_true rfl) d_CT_cell_6 (fun ws1 H locs hw hp => ?_)
  rw [hp] at hw
  clear hp
  obtain ⟨x2, ho, h⟩ := ct_ob_some h
  refine ct_callSi C0 hw hl.1 (ct_giS wd_427 wd_428 wd_1 wd_429) (fun sz => s_CT_isCell l g ws sz ho) (nA := 3) (rm := rm_CT_isCell) (by decide +kernel) rfl ⟨rfl, rfl⟩ (by decide) (by decide) (As := [.int a1, .int a2, .int x1]) (rest := []) rfl (Nat.le_of_ble_eq_true rfl) d_CT_cell_9 (fun ws1 H locs hw hp => ?_)
  rw [hp] at hw
  clear hp
  obtain ⟨o3, ho, h⟩ := ct_xb_some h
  refine ct_callSXv C0 hw hl.1 (ct_giS wd_209 wd_210 wd_1 wd_211) (fun sz => s_CT_check l g ws sz hR.rf hl0 ho) (nA := 1) (rm := rm_CT_check) (by decide +kernel) rfl ⟨rfl, rfl⟩ (by decide) (by decide) (As := [.int x2]) (rest := []) rfl (Nat.le_of_ble_eq_true rfl) d_CT_cell_12 (fun E ce q9 ws1 H locs k9 s9 hw ho9 hE hp h1 h2 h3 => ?_) (fun ws1 H locs s9 hw ho9 hp => ?_)
  · subst ho9; obtain rfl := Option.some.inj h; exact hout hw rfl hE (hR.trans hp) h1 h2 h3 (by decide) (by decide)
  subst ho9
  have h := ct_xc_inr h
  have hR := hR.trans hp
  clear hp
  generalize ws1 = ws at hw hR
  generalize s9 = s4 at hR h
  refine lv_aload_n hx hb d_CT_cell_15 rfl (lv_at hl 0 rfl) ?_
  refine gf_CT_27 C0 hw hR d_CT_cell_16 ?_
  refine gf_CT_111 C0 hw hR d_CT_cell_19 ?_
  refine lv_iload_n hx hb d_CT_cell_22 rfl (lv_at hl 1 rfl) ?_
  obtain ⟨hg23, h⟩ := ct_gd_some h
  refine ct_ldoc C0 hw hR (ct_inR_vp hg23) d_CT_cell_23 ?_
  refine lv_iload_n hx hb d_CT_cell_24 rfl (lv_at hl 2 rfl) ?_
  obtain ⟨hg25, h⟩ := ct_gd_some h
  refine ct_ldrw C0 hw hR (ct_inR_lt hg23) (ct_inR_vp hg25) d_CT_cell_25 ?_
  obtain rfl := Option.some.inj h
  exact hret hw ⟨_, rfl, hR⟩ (by decide) (by decide) d_CT_cell_26

theorem d_Tr_mark_0 : decode c_Tr_mark 0 = .ok (.aload_n 0, 1) := by decide +kernel
theorem d_Tr_mark_1 : decode c_Tr_mark 1 = .ok (.getfield 16, 3) := by decide +kernel
theorem d_Tr_mark_4 : decode c_Tr_mark 4 = .ok (.iload_n 1, 1) := by decide +kernel
theorem d_Tr_mark_5 : decode c_Tr_mark 5 = .ok (.bipush 6, 2) := by decide +kernel
theorem d_Tr_mark_7 : decode c_Tr_mark 7 = .ok (.imul, 1) := by decide +kernel
theorem d_Tr_mark_8 : decode c_Tr_mark 8 = .ok (.iload_n 2, 1) := by decide +kernel
theorem d_Tr_mark_9 : decode c_Tr_mark 9 = .ok (.iadd, 1) := by decide +kernel
theorem d_Tr_mark_10 : decode c_Tr_mark 10 = .ok (.iload_n 3, 1) := by decide +kernel
theorem d_Tr_mark_11 : decode c_Tr_mark 11 = .ok (.bastore, 1) := by decide +kernel
theorem d_Tr_mark_12 : decode c_Tr_mark 12 = .ok (.iconst 0, 1) := by decide +kernel
theorem d_Tr_mark_13 : decode c_Tr_mark 13 = .ok (.istore 4, 2) := by decide +kernel
theorem d_Tr_mark_15 : decode c_Tr_mark 15 = .ok (.iconst 0, 1) := by decide +kernel
theorem d_Tr_mark_16 : decode c_Tr_mark 16 = .ok (.istore 5, 2) := by decide +kernel
theorem d_Tr_mark_18 : decode c_Tr_mark 18 = .ok (.iload 5, 2) := by decide +kernel
theorem d_Tr_mark_20 : decode c_Tr_mark 20 = .ok (.aload_n 0, 1) := by decide +kernel
theorem d_Tr_mark_21 : decode c_Tr_mark 21 = .ok (.getfield 16, 3) := by decide +kernel
theorem d_Tr_mark_24 : decode c_Tr_mark 24 = .ok (.arraylength, 1) := by decide +kernel
theorem d_Tr_mark_25 : decode c_Tr_mark 25 = .ok (.if_icmp .ge 22, 3) := by decide +kernel
theorem d_Tr_mark_28 : decode c_Tr_mark 28 = .ok (.aload_n 0, 1) := by decide +kernel
theorem d_Tr_mark_29 : decode c_Tr_mark 29 = .ok (.getfield 16, 3) := by decide +kernel
theorem d_Tr_mark_32 : decode c_Tr_mark 32 = .ok (.iload 5, 2) := by decide +kernel
theorem d_Tr_mark_34 : decode c_Tr_mark 34 = .ok (.baload, 1) := by decide +kernel
theorem d_Tr_mark_35 : decode c_Tr_mark 35 = .ok (.ifCond .eq 6, 3) := by decide +kernel
theorem d_Tr_mark_38 : decode c_Tr_mark 38 = .ok (.iinc 4 1, 3) := by decide +kernel
theorem d_Tr_mark_41 : decode c_Tr_mark 41 = .ok (.iinc 5 1, 3) := by decide +kernel
theorem d_Tr_mark_44 : decode c_Tr_mark 44 = .ok (.goto (-26), 3) := by decide +kernel
theorem d_Tr_mark_47 : decode c_Tr_mark 47 = .ok (.iload 4, 2) := by decide +kernel
theorem d_Tr_mark_49 : decode c_Tr_mark 49 = .ok (.ireturn, 1) := by decide +kernel
set_option maxHeartbeats 4000000 in
set_option maxRecDepth 100000 in
theorem s_Tr_mark (l : Launch) (g : Gx) (ws0 : va_W) (sz : Nat) {s : CS} {a1 : Int32} {a2 : Int32} {a3 : Int32} {res : (Int32 × CS)} (hR : cs_Rel g ws0 ws0 s) (h : fn_Tr_mark s a1 a2 a3 = some res) : ct_MI l y_Tr_mark c_Tr_mark 6 (some .int) rm_Tr_mark g ws0 sz [.ref (g.2.1 2), .int a1, .int a2, .int a3] res.1 (fun u => cs_Rel g ws0 u res.2) := by
  refine ct_starti (by decide +kernel) (Nat.le_of_ble_eq_true rfl) (fun p e sv m args below meth c ls Q A H locs C0 hret hl hw => ?_)
  have hx := C0.1
  have hb := C0.2.1
  have hown := C0.2.2.2.1
  have hts := C0.2.2.2.2.1
  have hl : lv_has ls 6 [(0, .ref (g.2.1 2)), (1, .int a1), (2, .int a2), (3, .int a3)] := hl
  have L18 : ∀ (n18 : Nat) (ws : va_W) (H : Heap) (locs : List Loc) (ls : Array Slot) (s : CS) (v4 : Int32) (v5 : Int32), ct_Wd g A sv ws H locs → cs_Rel g ws0 ws s → lv_has ls 6 [(0, .ref (g.2.1 2)), (4, .int v4), (5, .int v5)] → bk_Tr_mark_18 a1 a2 a3 n18 s v4 v5 = some res → W p l e rm_Tr_mark sv m args below meth c H locs 0 0 Q (F0 m 18 ls []) := by
    intro n18
    induction n18 with
    | zero =>
      intro ws H locs ls s v4 v5 hw hR hl h
      exact absurd h (by simp [bk_Tr_mark_18])
    | succ n18 ih18 =>
      have J41 : ∀ (ws : va_W) (H : Heap) (locs : List Loc) (ls : Array Slot) (s : CS) (v4 : Int32) (v5 : Int32), ct_Wd g A sv ws H locs → cs_Rel g ws0 ws s → lv_has ls 6 [(0, .ref (g.2.1 2)), (4, .int v4), (5, .int v5)] → bk_Tr_mark_41 a1 a2 a3 (bk_Tr_mark_18 a1 a2 a3 n18) s v4 v5 = some res → W p l e rm_Tr_mark sv m args below meth c H locs 0 0 Q (F0 m 41 ls []) := by
        intro ws H locs ls s v4 v5 hw hR hl h
        unfold bk_Tr_mark_41 at h
        refine lv_iinc (v := v5 + 1) (k := 2) (lv' := [(5, .int (v5 + 1)), (0, .ref (g.2.1 2)), (4, .int v4)]) hx hb d_Tr_mark_41 hl rfl rfl (by decide) rfl (fun ls hl => ?_)
        refine lv_goto hx hb (tgt := 18) d_Tr_mark_44 (by decide) ?_
        exact ih18 ws H locs ls s v4 (v5 + 1) hw hR (lv_sub hl [1, 2, 0] rfl) h
      intro ws H locs ls s v4 v5 hw hR hl h
      have h : bk_Tr_mark_18_o a1 a2 a3 (bk_Tr_mark_18 a1 a2 a3 n18) s v4 v5 = some res := h
      unfold bk_Tr_mark_18_o at h
      refine lv_iload hx hb d_Tr_mark_18 (lv_at hl 2 rfl) ?_
      refine lv_aload_n hx hb d_Tr_mark_20 rfl (lv_at hl 0 rfl) ?_
      refine gf_Tr_16 C0 hw hR d_Tr_mark_21 ?_
      refine ct_lena C0 hw hR d_Tr_mark_24 ?_
      refine lv_icmp_ge hx hb (tgt := 47) d_Tr_mark_25 (by decide) (fun hc9 => ?_) (fun hc9 => ?_)
      · rw [if_pos hc9] at h
        refine lv_iload hx hb d_Tr_mark_47 (lv_at hl 1 rfl) ?_
        obtain rfl := Option.some.inj h
        exact hret hw hR d_Tr_mark_49
      · rw [if_neg hc9] at h
        refine lv_aload_n hx hb d_Tr_mark_28 rfl (lv_at hl 0 rfl) ?_
        refine gf_Tr_16 C0 hw hR d_Tr_mark_29 ?_
        refine lv_iload hx hb d_Tr_mark_32 (lv_at hl 2 rfl) ?_
        obtain ⟨hg34, h⟩ := ct_gd_some h
        refine ct_ldO C0 hw hR (ct_inR_vp hg34) d_Tr_mark_34 ?_
        refine lv_if_eq hx hb (tgt := 41) d_Tr_mark_35 (by decide) (fun hc9 => ?_) (fun hc9 => ?_)
        · rw [if_pos hc9] at h
          exact J41 ws H locs ls s v4 v5 hw hR (lv_sub hl [0, 1, 2] rfl) h
        · rw [if_neg hc9] at h
          refine lv_iinc (v := v4 + 1) (k := 1) (lv' := [(4, .int (v4 + 1)), (0, .ref (g.2.1 2)), (5, .int v5)]) hx hb d_Tr_mark_38 hl rfl rfl (by decide) rfl (fun ls hl => ?_)
          exact J41 ws H locs ls s (v4 + 1) v5 hw hR (lv_sub hl [1, 0, 2] rfl) h
  unfold fn_Tr_mark at h
  obtain ⟨ws, hwe⟩ : ∃ z : va_W, z = ws0 := ⟨_, rfl⟩
  rw [← hwe] at hw
  have hR : cs_Rel g ws0 ws s := by rw [hwe]; exact hR
  clear hwe
  refine lv_aload_n hx hb d_Tr_mark_0 rfl (lv_at hl 0 rfl) ?_
  refine gf_Tr_16 C0 hw hR d_Tr_mark_1 ?_
  refine lv_iload_n hx hb d_Tr_mark_4 rfl (lv_at hl 1 rfl) ?_
  refine lv_bipush (v := 6) hx hb d_Tr_mark_5 (by decide) ?_
  refine lv_imul hx hb d_Tr_mark_7 ?_
  refine lv_iload_n hx hb d_Tr_mark_8 rfl (lv_at hl 2 rfl) ?_
  refine lv_iadd hx hb d_Tr_mark_9 ?_
  refine lv_iload_n hx hb d_Tr_mark_10 rfl (lv_at hl 3 rfl) ?_
  obtain ⟨hg11, h⟩ := ct_gd_some h
  refine ct_stO C0 hw hR (ct_inR_vp hg11) d_Tr_mark_11 (fun ws H locs hw hR => ?_)
  obtain ⟨s1, es9, h⟩ := ct_nm_ex h
  rw [← es9] at hR
  clear es9
  refine lv_iconst (v := 0) hx hb d_Tr_mark_12 (by decide) ?_
  refine lv_istore (lv' := [(4, .int 0), (0, .ref (g.2.1 2)), (1, .int a1), (2, .int a2), (3, .int a3)]) hx hb d_Tr_mark_13 hl (by decide) rfl (fun ls hl => ?_)
  refine lv_iconst (v := 0) hx hb d_Tr_mark_15 (by decide) ?_
  refine lv_istore (lv' := [(5, .int 0), (4, .int 0), (0, .ref (g.2.1 2)), (1, .int a1), (2, .int a2), (3, .int a3)]) hx hb d_Tr_mark_16 hl (by decide) rfl (fun ls hl => ?_)
  exact L18 200 ws H locs ls s1 0 0 hw hR (lv_sub hl [2, 1, 0] rfl) h

theorem d_CT_leave_0 : decode c_CT_leave 0 = .ok (.iload_n 1, 1) := by decide +kernel
theorem d_CT_leave_1 : decode c_CT_leave 1 = .ok (.iload_n 2, 1) := by decide +kernel
theorem d_CT_leave_2 : decode c_CT_leave 2 = .ok (.aload_n 0, 1) := by decide +kernel
theorem d_CT_leave_3 : decode c_CT_leave 3 = .ok (.getfield 27, 3) := by decide +kernel
theorem d_CT_leave_6 : decode c_CT_leave 6 = .ok (.getfield 114, 3) := by decide +kernel
theorem d_CT_leave_9 : decode c_CT_leave 9 = .ok (.invokestatic 108, 3) := by decide +kernel
theorem d_CT_leave_12 : decode c_CT_leave 12 = .ok (.invokestatic 37, 3) := by decide +kernel
theorem d_CT_leave_15 : decode c_CT_leave 15 = .ok (.aload_n 0, 1) := by decide +kernel
theorem d_CT_leave_16 : decode c_CT_leave 16 = .ok (.getfield 27, 3) := by decide +kernel
theorem d_CT_leave_19 : decode c_CT_leave 19 = .ok (.iload_n 1, 1) := by decide +kernel
theorem d_CT_leave_20 : decode c_CT_leave 20 = .ok (.iload_n 2, 1) := by decide +kernel
theorem d_CT_leave_21 : decode c_CT_leave 21 = .ok (.iload_n 3, 1) := by decide +kernel
theorem d_CT_leave_22 : decode c_CT_leave 22 = .ok (.invokevirtual 118, 3) := by decide +kernel
theorem d_CT_leave_25 : decode c_CT_leave 25 = .ok (.ireturn, 1) := by decide +kernel
set_option maxHeartbeats 4000000 in
set_option maxRecDepth 100000 in
theorem s_CT_leave (l : Launch) (g : Gx) (ws0 : va_W) (sz : Nat) {s : CS} {a1 : Int32} {a2 : Int32} {a3 : Int32} {res : ((Nat × CS) ⊕ (Int32 × CS))} (hR : cs_Rel g ws0 ws0 s) (hl0 : l.stackTraces = false) (h : fn_CT_leave s a1 a2 a3 = some res) : ct_XI l y_CT_leave c_CT_leave 4 (some .int) rm_CT_leave g ws0 sz [.ref (g.2.1 0), .int a1, .int a2, .int a3] res 1 6 := by
  refine ct_startXi hl0 (by decide +kernel) rfl (Nat.le_of_ble_eq_true rfl) (fun p e sv m args below meth c ls Q A H locs C0 hret hout hthr hl hw => ?_)
  have hx := C0.1
  have hb := C0.2.1
  have hown := C0.2.2.2.1
  have hts := C0.2.2.2.2.1
  have hl : lv_has ls 4 [(0, .ref (g.2.1 0)), (1, .int a1), (2, .int a2), (3, .int a3)] := hl
  unfold fn_CT_leave at h
  obtain ⟨ws, hwe⟩ : ∃ z : va_W, z = ws0 := ⟨_, rfl⟩
  rw [← hwe] at hw
  have hR : cs_Rel g ws0 ws s := by rw [hwe]; exact hR
  clear hwe
  refine lv_iload_n hx hb d_CT_leave_0 rfl (lv_at hl 1 rfl) ?_
  refine lv_iload_n hx hb d_CT_leave_1 rfl (lv_at hl 2 rfl) ?_
  refine lv_aload_n hx hb d_CT_leave_2 rfl (lv_at hl 0 rfl) ?_
  refine gf_CT_27 C0 hw hR d_CT_leave_3 ?_
  refine gf_CT_114 C0 hw hR d_CT_leave_6 ?_
  obtain ⟨x1, ho, h⟩ := ct_ob_some h
  refine ct_callSi C0 hw hl.1 (ct_giS wd_427 wd_428 wd_1 wd_429) (fun sz => s_CT_isCell l g ws sz ho) (nA := 3) (rm := rm_CT_isCell) (by decide +kernel) rfl ⟨rfl, rfl⟩ (by decide) (by decide) (As := [.int a1, .int a2, .int (cs_I s 4)]) (rest := []) rfl (Nat.le_of_ble_eq_true rfl) d_CT_leave_9 (fun ws1 H locs hw hp => ?_)
  rw [hp] at hw
  clear hp
  obtain ⟨o2, ho, h⟩ := ct_xb_some h
  refine ct_callSXv C0 hw hl.1 (ct_giS wd_209 wd_210 wd_1 wd_211) (fun sz => s_CT_check l g ws sz hR.rf hl0 ho) (nA := 1) (rm := rm_CT_check) (by decide +kernel) rfl ⟨rfl, rfl⟩ (by decide) (by decide) (As := [.int x1]) (rest := []) rfl (Nat.le_of_ble_eq_true rfl) d_CT_leave_12 (fun E ce q9 ws1 H locs k9 s9 hw ho9 hE hp h1 h2 h3 => ?_) (fun ws1 H locs s9 hw ho9 hp => ?_)
  · subst ho9; obtain rfl := Option.some.inj h; exact hout hw rfl hE (hR.trans hp) h1 h2 h3 (by decide) (by decide)
  subst ho9
  have h := ct_xc_inr h
  have hR := hR.trans hp
  clear hp
  generalize ws1 = ws at hw hR
  generalize s9 = s3 at hR h
  refine lv_aload_n hx hb d_CT_leave_15 rfl (lv_at hl 0 rfl) ?_
  refine gf_CT_27 C0 hw hR d_CT_leave_16 ?_
  refine lv_iload_n hx hb d_CT_leave_19 rfl (lv_at hl 1 rfl) ?_
  refine lv_iload_n hx hb d_CT_leave_20 rfl (lv_at hl 2 rfl) ?_
  refine lv_iload_n hx hb d_CT_leave_21 rfl (lv_at hl 3 rfl) ?_
  obtain ⟨x4, s5, ho, h⟩ := ct_ob2_some h
  refine ct_callVi C0 hw hl.1 (q0 := 2) (hR.1 2 (by decide)) rfl (ct_giV wd_437 wd_438 wd_439 wd_4 wd_440) (fun sz => s_Tr_mark l g ws sz hR.rf ho) (nA := 3) (rm := rm_Tr_mark) (by decide +kernel) rfl ⟨rfl, rfl⟩ (by decide) (by decide) (As := [.int a1, .int a2, .int a3]) (rest := []) rfl (Nat.le_of_ble_eq_true rfl) d_CT_leave_22 (fun ws1 H locs hw hp => ?_)
  have hR := hR.trans hp
  clear hp
  generalize ws1 = ws at hw hR
  obtain rfl := Option.some.inj h
  exact hret hw ⟨_, rfl, hR⟩ (by decide) (by decide) d_CT_leave_25

theorem d_CT_latest_0 : decode c_CT_latest 0 = .ok (.iload_n 1, 1) := by decide +kernel
theorem d_CT_latest_1 : decode c_CT_latest 1 = .ok (.iconst 1, 1) := by decide +kernel
theorem d_CT_latest_2 : decode c_CT_latest 2 = .ok (.bipush 6, 2) := by decide +kernel
theorem d_CT_latest_4 : decode c_CT_latest 4 = .ok (.invokestatic 33, 3) := by decide +kernel
theorem d_CT_latest_7 : decode c_CT_latest 7 = .ok (.invokestatic 37, 3) := by decide +kernel
theorem d_CT_latest_10 : decode c_CT_latest 10 = .ok (.aload_n 0, 1) := by decide +kernel
theorem d_CT_latest_11 : decode c_CT_latest 11 = .ok (.getfield 32, 3) := by decide +kernel
theorem d_CT_latest_14 : decode c_CT_latest 14 = .ok (.iload_n 1, 1) := by decide +kernel
theorem d_CT_latest_15 : decode c_CT_latest 15 = .ok (.putfield 122, 3) := by decide +kernel
theorem d_CT_latest_18 : decode c_CT_latest 18 = .ok (.return_, 1) := by decide +kernel
set_option maxHeartbeats 4000000 in
set_option maxRecDepth 100000 in
theorem s_CT_latest (l : Launch) (g : Gx) (ws0 : va_W) (sz : Nat) {s : CS} {a1 : Int32} {res : ((Nat × CS) ⊕ CS)} (hR : cs_Rel g ws0 ws0 s) (hl0 : l.stackTraces = false) (h : fn_CT_latest s a1 = some res) : ct_XV l y_CT_latest c_CT_latest 2 none rm_CT_latest g ws0 sz [.ref (g.2.1 0), .int a1] res 1 6 := by
  refine ct_startXv hl0 (by decide +kernel) rfl (Nat.le_of_ble_eq_true rfl) (fun p e sv m args below meth c ls Q A H locs C0 hret hout hthr hl hw => ?_)
  have hx := C0.1
  have hb := C0.2.1
  have hown := C0.2.2.2.1
  have hts := C0.2.2.2.2.1
  have hl : lv_has ls 2 [(0, .ref (g.2.1 0)), (1, .int a1)] := hl
  unfold fn_CT_latest at h
  obtain ⟨ws, hwe⟩ : ∃ z : va_W, z = ws0 := ⟨_, rfl⟩
  rw [← hwe] at hw
  have hR : cs_Rel g ws0 ws s := by rw [hwe]; exact hR
  clear hwe
  refine lv_iload_n hx hb d_CT_latest_0 rfl (lv_at hl 1 rfl) ?_
  refine lv_iconst (v := 1) hx hb d_CT_latest_1 (by decide) ?_
  refine lv_bipush (v := 6) hx hb d_CT_latest_2 (by decide) ?_
  obtain ⟨x1, ho, h⟩ := ct_ob_some h
  refine ct_callSi C0 hw hl.1 (ct_giS wd_206 wd_207 wd_1 wd_208) (fun sz => s_CT_within l g ws sz ho) (nA := 3) (rm := rm_CT_within) (by decide +kernel) rfl ⟨rfl, rfl⟩ (by decide) (by decide) (As := [.int a1, .int 1, .int 6]) (rest := []) rfl (Nat.le_of_ble_eq_true rfl) d_CT_latest_4 (fun ws1 H locs hw hp => ?_)
  rw [hp] at hw
  clear hp
  obtain ⟨o2, ho, h⟩ := ct_xb_some h
  refine ct_callSXv C0 hw hl.1 (ct_giS wd_209 wd_210 wd_1 wd_211) (fun sz => s_CT_check l g ws sz hR.rf hl0 ho) (nA := 1) (rm := rm_CT_check) (by decide +kernel) rfl ⟨rfl, rfl⟩ (by decide) (by decide) (As := [.int x1]) (rest := []) rfl (Nat.le_of_ble_eq_true rfl) d_CT_latest_7 (fun E ce q9 ws1 H locs k9 s9 hw ho9 hE hp h1 h2 h3 => ?_) (fun ws1 H locs s9 hw ho9 hp => ?_)
  · subst ho9; obtain rfl := Option.some.inj h; exact hout hw rfl hE (hR.trans hp) h1 h2 h3 (by decide) (by decide)
  subst ho9
  have h := ct_xc_inr h
  have hR := hR.trans hp
  clear hp
  generalize ws1 = ws at hw hR
  generalize s9 = s3 at hR h
  refine lv_aload_n hx hb d_CT_latest_10 rfl (lv_at hl 0 rfl) ?_
  refine gf_CT_32 C0 hw hR d_CT_latest_11 ?_
  refine lv_iload_n hx hb d_CT_latest_14 rfl (lv_at hl 1 rfl) ?_
  refine pf_CT_122 C0 hw hR d_CT_latest_15 (fun ws H locs hw hR => ?_)
  obtain ⟨s4, es9, h⟩ := ct_nm_ex h
  rw [← es9] at hR
  clear es9
  obtain rfl := Option.some.inj h
  exact hret hw ⟨_, rfl, hR⟩ (by decide) (by decide) d_CT_latest_18

theorem d_CT_hide_0 : decode c_CT_hide 0 = .ok (.iload_n 1, 1) := by decide +kernel
theorem d_CT_hide_1 : decode c_CT_hide 1 = .ok (.iconst 0, 1) := by decide +kernel
theorem d_CT_hide_2 : decode c_CT_hide 2 = .ok (.aload_n 0, 1) := by decide +kernel
theorem d_CT_hide_3 : decode c_CT_hide 3 = .ok (.getfield 27, 3) := by decide +kernel
theorem d_CT_hide_6 : decode c_CT_hide 6 = .ok (.getfield 114, 3) := by decide +kernel
theorem d_CT_hide_9 : decode c_CT_hide 9 = .ok (.iconst 1, 1) := by decide +kernel
theorem d_CT_hide_10 : decode c_CT_hide 10 = .ok (.isub, 1) := by decide +kernel
theorem d_CT_hide_11 : decode c_CT_hide 11 = .ok (.invokestatic 33, 3) := by decide +kernel
theorem d_CT_hide_14 : decode c_CT_hide 14 = .ok (.invokestatic 37, 3) := by decide +kernel
theorem d_CT_hide_17 : decode c_CT_hide 17 = .ok (.aload_n 0, 1) := by decide +kernel
theorem d_CT_hide_18 : decode c_CT_hide 18 = .ok (.getfield 27, 3) := by decide +kernel
theorem d_CT_hide_21 : decode c_CT_hide 21 = .ok (.iload_n 1, 1) := by decide +kernel
theorem d_CT_hide_22 : decode c_CT_hide 22 = .ok (.putfield 125, 3) := by decide +kernel
theorem d_CT_hide_25 : decode c_CT_hide 25 = .ok (.aload_n 0, 1) := by decide +kernel
theorem d_CT_hide_26 : decode c_CT_hide 26 = .ok (.getfield 27, 3) := by decide +kernel
theorem d_CT_hide_29 : decode c_CT_hide 29 = .ok (.invokevirtual 104, 3) := by decide +kernel
theorem d_CT_hide_32 : decode c_CT_hide 32 = .ok (.ireturn, 1) := by decide +kernel
set_option maxHeartbeats 4000000 in
set_option maxRecDepth 100000 in
theorem s_CT_hide (l : Launch) (g : Gx) (ws0 : va_W) (sz : Nat) {s : CS} {a1 : Int32} {res : ((Nat × CS) ⊕ (Int32 × CS))} (hR : cs_Rel g ws0 ws0 s) (hl0 : l.stackTraces = false) (h : fn_CT_hide s a1 = some res) : ct_XI l y_CT_hide c_CT_hide 2 (some .int) rm_CT_hide g ws0 sz [.ref (g.2.1 0), .int a1] res 1 6 := by
  refine ct_startXi hl0 (by decide +kernel) rfl (Nat.le_of_ble_eq_true rfl) (fun p e sv m args below meth c ls Q A H locs C0 hret hout hthr hl hw => ?_)
  have hx := C0.1
  have hb := C0.2.1
  have hown := C0.2.2.2.1
  have hts := C0.2.2.2.2.1
  have hl : lv_has ls 2 [(0, .ref (g.2.1 0)), (1, .int a1)] := hl
  unfold fn_CT_hide at h
  obtain ⟨ws, hwe⟩ : ∃ z : va_W, z = ws0 := ⟨_, rfl⟩
  rw [← hwe] at hw
  have hR : cs_Rel g ws0 ws s := by rw [hwe]; exact hR
  clear hwe
  refine lv_iload_n hx hb d_CT_hide_0 rfl (lv_at hl 1 rfl) ?_
  refine lv_iconst (v := 0) hx hb d_CT_hide_1 (by decide) ?_
  refine lv_aload_n hx hb d_CT_hide_2 rfl (lv_at hl 0 rfl) ?_
  refine gf_CT_27 C0 hw hR d_CT_hide_3 ?_
  refine gf_CT_114 C0 hw hR d_CT_hide_6 ?_
  refine lv_iconst (v := 1) hx hb d_CT_hide_9 (by decide) ?_
  refine lv_isub hx hb d_CT_hide_10 ?_
  obtain ⟨x1, ho, h⟩ := ct_ob_some h
  refine ct_callSi C0 hw hl.1 (ct_giS wd_206 wd_207 wd_1 wd_208) (fun sz => s_CT_within l g ws sz ho) (nA := 3) (rm := rm_CT_within) (by decide +kernel) rfl ⟨rfl, rfl⟩ (by decide) (by decide) (As := [.int a1, .int 0, .int ((cs_I s 4) - 1)]) (rest := []) rfl (Nat.le_of_ble_eq_true rfl) d_CT_hide_11 (fun ws1 H locs hw hp => ?_)
  rw [hp] at hw
  clear hp
  obtain ⟨o2, ho, h⟩ := ct_xb_some h
  refine ct_callSXv C0 hw hl.1 (ct_giS wd_209 wd_210 wd_1 wd_211) (fun sz => s_CT_check l g ws sz hR.rf hl0 ho) (nA := 1) (rm := rm_CT_check) (by decide +kernel) rfl ⟨rfl, rfl⟩ (by decide) (by decide) (As := [.int x1]) (rest := []) rfl (Nat.le_of_ble_eq_true rfl) d_CT_hide_14 (fun E ce q9 ws1 H locs k9 s9 hw ho9 hE hp h1 h2 h3 => ?_) (fun ws1 H locs s9 hw ho9 hp => ?_)
  · subst ho9; obtain rfl := Option.some.inj h; exact hout hw rfl hE (hR.trans hp) h1 h2 h3 (by decide) (by decide)
  subst ho9
  have h := ct_xc_inr h
  have hR := hR.trans hp
  clear hp
  generalize ws1 = ws at hw hR
  generalize s9 = s3 at hR h
  refine lv_aload_n hx hb d_CT_hide_17 rfl (lv_at hl 0 rfl) ?_
  refine gf_CT_27 C0 hw hR d_CT_hide_18 ?_
  refine lv_iload_n hx hb d_CT_hide_21 rfl (lv_at hl 1 rfl) ?_
  refine pf_CT_125 C0 hw hR d_CT_hide_22 (fun ws H locs hw hR => ?_)
  obtain ⟨s4, es9, h⟩ := ct_nm_ex h
  rw [← es9] at hR
  clear es9
  refine lv_aload_n hx hb d_CT_hide_25 rfl (lv_at hl 0 rfl) ?_
  refine gf_CT_27 C0 hw hR d_CT_hide_26 ?_
  obtain ⟨x5, ho, h⟩ := ct_ob_some h
  refine ct_callVi C0 hw hl.1 (q0 := 2) (hR.1 2 (by decide)) rfl (ct_giV wd_423 wd_424 wd_425 wd_4 wd_426) (fun sz => s_Tr_shown l g ws sz hR.rf ho) (nA := 0) (rm := rm_Tr_shown) (by decide +kernel) rfl ⟨rfl, rfl⟩ (by decide) (by decide) (As := []) (rest := []) rfl (Nat.le_of_ble_eq_true rfl) d_CT_hide_29 (fun ws1 H locs hw hp => ?_)
  rw [hp] at hw
  clear hp
  obtain rfl := Option.some.inj h
  exact hret hw ⟨_, rfl, hR⟩ (by decide) (by decide) d_CT_hide_32

theorem d_CT_isChain_0 : decode c_CT_isChain 0 = .ok (.iload_n 0, 1) := by decide +kernel
theorem d_CT_isChain_1 : decode c_CT_isChain 1 = .ok (.ifCond .eq 8, 3) := by decide +kernel
theorem d_CT_isChain_4 : decode c_CT_isChain 4 = .ok (.iload_n 0, 1) := by decide +kernel
theorem d_CT_isChain_5 : decode c_CT_isChain 5 = .ok (.iconst 1, 1) := by decide +kernel
theorem d_CT_isChain_6 : decode c_CT_isChain 6 = .ok (.if_icmp .ne 7, 3) := by decide +kernel
theorem d_CT_isChain_9 : decode c_CT_isChain 9 = .ok (.iconst 1, 1) := by decide +kernel
theorem d_CT_isChain_10 : decode c_CT_isChain 10 = .ok (.goto 4, 3) := by decide +kernel
theorem d_CT_isChain_13 : decode c_CT_isChain 13 = .ok (.iconst 0, 1) := by decide +kernel
theorem d_CT_isChain_14 : decode c_CT_isChain 14 = .ok (.ireturn, 1) := by decide +kernel
set_option maxHeartbeats 4000000 in
set_option maxRecDepth 100000 in
theorem s_CT_isChain (l : Launch) (g : Gx) (ws0 : va_W) (sz : Nat) {a1 : Int32} {res : Int32} (h : fn_CT_isChain a1 = some res) : ct_MI l y_CT_isChain c_CT_isChain 1 (some .boolean) rm_CT_isChain g ws0 sz [.int a1] res (fun u => u = ws0) := by
  refine ct_startz (by decide +kernel) (Nat.le_of_ble_eq_true rfl) (fun p e sv m args below meth c ls Q A H locs C0 hret hl hw => ?_)
  have hx := C0.1
  have hb := C0.2.1
  have hown := C0.2.2.2.1
  have hts := C0.2.2.2.2.1
  have hl : lv_has ls 1 [(0, .int a1)] := hl
  unfold fn_CT_isChain at h
  refine lv_iload_n hx hb d_CT_isChain_0 rfl (lv_at hl 0 rfl) ?_
  refine lv_if_eq hx hb (tgt := 9) d_CT_isChain_1 (by decide) (fun hc9 => ?_) (fun hc9 => ?_)
  · rw [if_pos hc9] at h
    refine lv_iconst (v := 1) hx hb d_CT_isChain_9 (by decide) ?_
    refine lv_goto hx hb (tgt := 14) d_CT_isChain_10 (by decide) ?_
    have hz : ct_isB 1 = true := by decide
    obtain rfl := Option.some.inj h
    exact hret hz hw rfl d_CT_isChain_14
  · rw [if_neg hc9] at h
    refine lv_iload_n hx hb d_CT_isChain_4 rfl (lv_at hl 0 rfl) ?_
    refine lv_iconst (v := 1) hx hb d_CT_isChain_5 (by decide) ?_
    refine lv_icmp_ne hx hb (tgt := 13) d_CT_isChain_6 (by decide) (fun hc9 => ?_) (fun hc9 => ?_)
    · rw [if_pos hc9] at h
      refine lv_iconst (v := 0) hx hb d_CT_isChain_13 (by decide) ?_
      have hz : ct_isB 0 = true := by decide
      obtain rfl := Option.some.inj h
      exact hret hz hw rfl d_CT_isChain_14
    · rw [if_neg (fun q => q hc9)] at h
      refine lv_iconst (v := 1) hx hb d_CT_isChain_9 (by decide) ?_
      refine lv_goto hx hb (tgt := 14) d_CT_isChain_10 (by decide) ?_
      have hz : ct_isB 1 = true := by decide
      obtain rfl := Option.some.inj h
      exact hret hz hw rfl d_CT_isChain_14

theorem d_Tr_takes_0 : decode c_Tr_takes 0 = .ok (.aload_n 0, 1) := by decide +kernel
theorem d_Tr_takes_1 : decode c_Tr_takes 1 = .ok (.getfield 16, 3) := by decide +kernel
theorem d_Tr_takes_4 : decode c_Tr_takes 4 = .ok (.iload_n 1, 1) := by decide +kernel
theorem d_Tr_takes_5 : decode c_Tr_takes 5 = .ok (.bipush 6, 2) := by decide +kernel
theorem d_Tr_takes_7 : decode c_Tr_takes 7 = .ok (.imul, 1) := by decide +kernel
theorem d_Tr_takes_8 : decode c_Tr_takes 8 = .ok (.iload_n 2, 1) := by decide +kernel
theorem d_Tr_takes_9 : decode c_Tr_takes 9 = .ok (.iadd, 1) := by decide +kernel
theorem d_Tr_takes_10 : decode c_Tr_takes 10 = .ok (.baload, 1) := by decide +kernel
theorem d_Tr_takes_11 : decode c_Tr_takes 11 = .ok (.ifCond .ne 23, 3) := by decide +kernel
theorem d_Tr_takes_14 : decode c_Tr_takes 14 = .ok (.aload_n 0, 1) := by decide +kernel
theorem d_Tr_takes_15 : decode c_Tr_takes 15 = .ok (.getfield 16, 3) := by decide +kernel
theorem d_Tr_takes_18 : decode c_Tr_takes 18 = .ok (.iload_n 1, 1) := by decide +kernel
theorem d_Tr_takes_19 : decode c_Tr_takes 19 = .ok (.bipush 6, 2) := by decide +kernel
theorem d_Tr_takes_21 : decode c_Tr_takes 21 = .ok (.imul, 1) := by decide +kernel
theorem d_Tr_takes_22 : decode c_Tr_takes 22 = .ok (.iload_n 2, 1) := by decide +kernel
theorem d_Tr_takes_23 : decode c_Tr_takes 23 = .ok (.iadd, 1) := by decide +kernel
theorem d_Tr_takes_24 : decode c_Tr_takes 24 = .ok (.iconst 1, 1) := by decide +kernel
theorem d_Tr_takes_25 : decode c_Tr_takes 25 = .ok (.iadd, 1) := by decide +kernel
theorem d_Tr_takes_26 : decode c_Tr_takes 26 = .ok (.baload, 1) := by decide +kernel
theorem d_Tr_takes_27 : decode c_Tr_takes 27 = .ok (.ifCond .ne 7, 3) := by decide +kernel
theorem d_Tr_takes_30 : decode c_Tr_takes 30 = .ok (.iconst 1, 1) := by decide +kernel
theorem d_Tr_takes_31 : decode c_Tr_takes 31 = .ok (.goto 4, 3) := by decide +kernel
theorem d_Tr_takes_34 : decode c_Tr_takes 34 = .ok (.iconst 0, 1) := by decide +kernel
theorem d_Tr_takes_35 : decode c_Tr_takes 35 = .ok (.ireturn, 1) := by decide +kernel
set_option maxHeartbeats 4000000 in
set_option maxRecDepth 100000 in
theorem s_Tr_takes (l : Launch) (g : Gx) (ws0 : va_W) (sz : Nat) {s : CS} {a1 : Int32} {a2 : Int32} {res : Int32} (hR : cs_Rel g ws0 ws0 s) (h : fn_Tr_takes s a1 a2 = some res) : ct_MI l y_Tr_takes c_Tr_takes 3 (some .boolean) rm_Tr_takes g ws0 sz [.ref (g.2.1 2), .int a1, .int a2] res (fun u => u = ws0) := by
  refine ct_startz (by decide +kernel) (Nat.le_of_ble_eq_true rfl) (fun p e sv m args below meth c ls Q A H locs C0 hret hl hw => ?_)
  have hx := C0.1
  have hb := C0.2.1
  have hown := C0.2.2.2.1
  have hts := C0.2.2.2.2.1
  have hl : lv_has ls 3 [(0, .ref (g.2.1 2)), (1, .int a1), (2, .int a2)] := hl
  unfold fn_Tr_takes at h
  refine lv_aload_n hx hb d_Tr_takes_0 rfl (lv_at hl 0 rfl) ?_
  refine gf_Tr_16 C0 hw hR d_Tr_takes_1 ?_
  refine lv_iload_n hx hb d_Tr_takes_4 rfl (lv_at hl 1 rfl) ?_
  refine lv_bipush (v := 6) hx hb d_Tr_takes_5 (by decide) ?_
  refine lv_imul hx hb d_Tr_takes_7 ?_
  refine lv_iload_n hx hb d_Tr_takes_8 rfl (lv_at hl 2 rfl) ?_
  refine lv_iadd hx hb d_Tr_takes_9 ?_
  obtain ⟨hg10, h⟩ := ct_gd_some h
  refine ct_ldO C0 hw hR (ct_inR_vp hg10) d_Tr_takes_10 ?_
  refine lv_if_ne hx hb (tgt := 34) d_Tr_takes_11 (by decide) (fun hc9 => ?_) (fun hc9 => ?_)
  · rw [if_pos hc9] at h
    refine lv_iconst (v := 0) hx hb d_Tr_takes_34 (by decide) ?_
    have hz : ct_isB 0 = true := by decide
    obtain rfl := Option.some.inj h
    exact hret hz hw rfl d_Tr_takes_35
  · rw [if_neg (fun q => q hc9)] at h
    refine lv_aload_n hx hb d_Tr_takes_14 rfl (lv_at hl 0 rfl) ?_
    refine gf_Tr_16 C0 hw hR d_Tr_takes_15 ?_
    refine lv_iload_n hx hb d_Tr_takes_18 rfl (lv_at hl 1 rfl) ?_
    refine lv_bipush (v := 6) hx hb d_Tr_takes_19 (by decide) ?_
    refine lv_imul hx hb d_Tr_takes_21 ?_
    refine lv_iload_n hx hb d_Tr_takes_22 rfl (lv_at hl 2 rfl) ?_
    refine lv_iadd hx hb d_Tr_takes_23 ?_
    refine lv_iconst (v := 1) hx hb d_Tr_takes_24 (by decide) ?_
    refine lv_iadd hx hb d_Tr_takes_25 ?_
    obtain ⟨hg26, h⟩ := ct_gd_some h
    refine ct_ldO C0 hw hR (ct_inR_vp hg26) d_Tr_takes_26 ?_
    refine lv_if_ne hx hb (tgt := 34) d_Tr_takes_27 (by decide) (fun hc9 => ?_) (fun hc9 => ?_)
    · rw [if_pos hc9] at h
      refine lv_iconst (v := 0) hx hb d_Tr_takes_34 (by decide) ?_
      have hz : ct_isB 0 = true := by decide
      obtain rfl := Option.some.inj h
      exact hret hz hw rfl d_Tr_takes_35
    · rw [if_neg (fun q => q hc9)] at h
      refine lv_iconst (v := 1) hx hb d_Tr_takes_30 (by decide) ?_
      refine lv_goto hx hb (tgt := 35) d_Tr_takes_31 (by decide) ?_
      have hz : ct_isB 1 = true := by decide
      obtain rfl := Option.some.inj h
      exact hret hz hw rfl d_Tr_takes_35

theorem d_Re_linkUp_0 : decode c_Re_linkUp 0 = .ok (.lconst 0, 1) := by decide +kernel
theorem d_Re_linkUp_1 : decode c_Re_linkUp 1 = .ok (.lstore_n 3, 1) := by decide +kernel
theorem d_Re_linkUp_2 : decode c_Re_linkUp 2 = .ok (.lconst 0, 1) := by decide +kernel
theorem d_Re_linkUp_3 : decode c_Re_linkUp 3 = .ok (.lstore 5, 2) := by decide +kernel
theorem d_Re_linkUp_5 : decode c_Re_linkUp 5 = .ok (.iconst 0, 1) := by decide +kernel
theorem d_Re_linkUp_6 : decode c_Re_linkUp 6 = .ok (.istore 7, 2) := by decide +kernel
theorem d_Re_linkUp_8 : decode c_Re_linkUp 8 = .ok (.aload_n 0, 1) := by decide +kernel
theorem d_Re_linkUp_9 : decode c_Re_linkUp 9 = .ok (.getfield 12, 3) := by decide +kernel
theorem d_Re_linkUp_12 : decode c_Re_linkUp 12 = .ok (.invokevirtual 51, 3) := by decide +kernel
theorem d_Re_linkUp_15 : decode c_Re_linkUp 15 = .ok (.iconst 2, 1) := by decide +kernel
theorem d_Re_linkUp_16 : decode c_Re_linkUp 16 = .ok (.isub, 1) := by decide +kernel
theorem d_Re_linkUp_17 : decode c_Re_linkUp 17 = .ok (.iload_n 1, 1) := by decide +kernel
theorem d_Re_linkUp_18 : decode c_Re_linkUp 18 = .ok (.isub, 1) := by decide +kernel
theorem d_Re_linkUp_19 : decode c_Re_linkUp 19 = .ok (.istore 8, 2) := by decide +kernel
theorem d_Re_linkUp_21 : decode c_Re_linkUp 21 = .ok (.iload 8, 2) := by decide +kernel
theorem d_Re_linkUp_23 : decode c_Re_linkUp 23 = .ok (.ifCond .lt 67, 3) := by decide +kernel
theorem d_Re_linkUp_26 : decode c_Re_linkUp 26 = .ok (.iload 7, 2) := by decide +kernel
theorem d_Re_linkUp_28 : decode c_Re_linkUp 28 = .ok (.iload_n 2, 1) := by decide +kernel
theorem d_Re_linkUp_29 : decode c_Re_linkUp 29 = .ok (.if_icmp .ge 61, 3) := by decide +kernel
theorem d_Re_linkUp_32 : decode c_Re_linkUp 32 = .ok (.aload_n 0, 1) := by decide +kernel
theorem d_Re_linkUp_33 : decode c_Re_linkUp 33 = .ok (.getfield 12, 3) := by decide +kernel
theorem d_Re_linkUp_36 : decode c_Re_linkUp 36 = .ok (.iload 8, 2) := by decide +kernel
theorem d_Re_linkUp_38 : decode c_Re_linkUp 38 = .ok (.iload_n 1, 1) := by decide +kernel
theorem d_Re_linkUp_39 : decode c_Re_linkUp 39 = .ok (.invokevirtual 59, 3) := by decide +kernel
theorem d_Re_linkUp_42 : decode c_Re_linkUp 42 = .ok (.ifCond .eq 42, 3) := by decide +kernel
theorem d_Re_linkUp_45 : decode c_Re_linkUp 45 = .ok (.lload_n 3, 1) := by decide +kernel
theorem d_Re_linkUp_46 : decode c_Re_linkUp 46 = .ok (.aload_n 0, 1) := by decide +kernel
theorem d_Re_linkUp_47 : decode c_Re_linkUp 47 = .ok (.getfield 12, 3) := by decide +kernel
theorem d_Re_linkUp_50 : decode c_Re_linkUp 50 = .ok (.getfield 63, 3) := by decide +kernel
theorem d_Re_linkUp_53 : decode c_Re_linkUp 53 = .ok (.iload 8, 2) := by decide +kernel
theorem d_Re_linkUp_55 : decode c_Re_linkUp 55 = .ok (.aaload, 1) := by decide +kernel
theorem d_Re_linkUp_56 : decode c_Re_linkUp 56 = .ok (.iload_n 1, 1) := by decide +kernel
theorem d_Re_linkUp_57 : decode c_Re_linkUp 57 = .ok (.iconst 1, 1) := by decide +kernel
theorem d_Re_linkUp_58 : decode c_Re_linkUp 58 = .ok (.iadd, 1) := by decide +kernel
theorem d_Re_linkUp_59 : decode c_Re_linkUp 59 = .ok (.iaload, 1) := by decide +kernel
theorem d_Re_linkUp_60 : decode c_Re_linkUp 60 = .ok (.i2l, 1) := by decide +kernel
theorem d_Re_linkUp_61 : decode c_Re_linkUp 61 = .ok (.ladd, 1) := by decide +kernel
theorem d_Re_linkUp_62 : decode c_Re_linkUp 62 = .ok (.lstore_n 3, 1) := by decide +kernel
theorem d_Re_linkUp_63 : decode c_Re_linkUp 63 = .ok (.lload 5, 2) := by decide +kernel
theorem d_Re_linkUp_65 : decode c_Re_linkUp 65 = .ok (.aload_n 0, 1) := by decide +kernel
theorem d_Re_linkUp_66 : decode c_Re_linkUp 66 = .ok (.getfield 12, 3) := by decide +kernel
theorem d_Re_linkUp_69 : decode c_Re_linkUp 69 = .ok (.getfield 63, 3) := by decide +kernel
theorem d_Re_linkUp_72 : decode c_Re_linkUp 72 = .ok (.iload 8, 2) := by decide +kernel
theorem d_Re_linkUp_74 : decode c_Re_linkUp 74 = .ok (.aaload, 1) := by decide +kernel
theorem d_Re_linkUp_75 : decode c_Re_linkUp 75 = .ok (.iload_n 1, 1) := by decide +kernel
theorem d_Re_linkUp_76 : decode c_Re_linkUp 76 = .ok (.iaload, 1) := by decide +kernel
theorem d_Re_linkUp_77 : decode c_Re_linkUp 77 = .ok (.i2l, 1) := by decide +kernel
theorem d_Re_linkUp_78 : decode c_Re_linkUp 78 = .ok (.ladd, 1) := by decide +kernel
theorem d_Re_linkUp_79 : decode c_Re_linkUp 79 = .ok (.lstore 5, 2) := by decide +kernel
theorem d_Re_linkUp_81 : decode c_Re_linkUp 81 = .ok (.iinc 7 1, 3) := by decide +kernel
theorem d_Re_linkUp_84 : decode c_Re_linkUp 84 = .ok (.iinc 8 (-1), 3) := by decide +kernel
theorem d_Re_linkUp_87 : decode c_Re_linkUp 87 = .ok (.goto (-66), 3) := by decide +kernel
theorem d_Re_linkUp_90 : decode c_Re_linkUp 90 = .ok (.aload_n 0, 1) := by decide +kernel
theorem d_Re_linkUp_91 : decode c_Re_linkUp 91 = .ok (.getfield 27, 3) := by decide +kernel
theorem d_Re_linkUp_94 : decode c_Re_linkUp 94 = .ok (.iload_n 1, 1) := by decide +kernel
theorem d_Re_linkUp_95 : decode c_Re_linkUp 95 = .ok (.aaload, 1) := by decide +kernel
theorem d_Re_linkUp_96 : decode c_Re_linkUp 96 = .ok (.lload_n 3, 1) := by decide +kernel
theorem d_Re_linkUp_97 : decode c_Re_linkUp 97 = .ok (.lload 5, 2) := by decide +kernel
theorem d_Re_linkUp_99 : decode c_Re_linkUp 99 = .ok (.invokevirtual 67, 3) := by decide +kernel
theorem d_Re_linkUp_102 : decode c_Re_linkUp 102 = .ok (.return_, 1) := by decide +kernel
set_option maxHeartbeats 4000000 in
set_option maxRecDepth 100000 in
theorem s_Re_linkUp (l : Launch) (g : Gx) (ws0 : va_W) (sz : Nat) {s : CS} {a1 : Int32} {a2 : Int32} {res : CS} (hR : cs_Rel g ws0 ws0 s) (h : fn_Re_linkUp s a1 a2 = some res) : ct_MV l y_Re_linkUp c_Re_linkUp 9 none rm_Re_linkUp g ws0 sz [.ref (g.2.1 4), .int a1, .int a2]  (fun u => cs_Rel g ws0 u res) := by
  refine ct_startv (by decide +kernel) (Nat.le_of_ble_eq_true rfl) (fun p e sv m args below meth c ls Q A H locs C0 hret hl hw => ?_)
  have hx := C0.1
  have hb := C0.2.1
  have hown := C0.2.2.2.1
  have hts := C0.2.2.2.2.1
  have hl : lv_has ls 9 [(0, .ref (g.2.1 4)), (1, .int a1), (2, .int a2)] := hl
  have J90 : ∀ (ws : va_W) (H : Heap) (locs : List Loc) (ls : Array Slot) (s : CS) (v3 : Int64) (v5 : Int64), ct_Wd g A sv ws H locs → cs_Rel g ws0 ws s → lv_has ls 9 [(0, .ref (g.2.1 4)), (1, .int a1), (3, .long v3), (5, .long v5)] → bk_Re_linkUp_90 a1 a2 s v3 v5 = some res → W p l e rm_Re_linkUp sv m args below meth c H locs 0 0 Q (F0 m 90 ls []) := by
    intro ws H locs ls s v3 v5 hw hR hl h
    unfold bk_Re_linkUp_90 at h
    refine lv_aload_n hx hb d_Re_linkUp_90 rfl (lv_at hl 0 rfl) ?_
    refine gf_Re_27 C0 hw hR d_Re_linkUp_91 ?_
    refine lv_iload_n hx hb d_Re_linkUp_94 rfl (lv_at hl 1 rfl) ?_
    obtain ⟨hg95, h⟩ := ct_gd_some h
    refine ct_ldlk C0 hw hR (ct_inR_vp hg95) d_Re_linkUp_95 ?_
    refine lv_lload_n hx hb d_Re_linkUp_96 rfl (lv_at hl 2 rfl) ?_
    refine lv_lload hx hb d_Re_linkUp_97 (lv_at hl 3 rfl) ?_
    obtain ⟨s1, ho, h⟩ := ct_ob_some h
    refine ct_callVv C0 hw hl.1 (hR.F (f := 3 + a1.toNatClampNeg) (by have := ct_inR_lt hg95; omega)) rfl (ct_giV wd_480 wd_389 wd_390 wd_6 wd_391) (fun sz => s_Fr_become l g ws sz hR.rf (by have := ct_inR_lt hg95; omega) ho) (nA := 2) (rm := rm_Fr_become) (by decide +kernel) rfl ⟨rfl, rfl⟩ (by decide) (by decide) (As := [.long v3, .long v5]) (rest := []) rfl (Nat.le_of_ble_eq_true rfl) d_Re_linkUp_99 (fun ws1 H locs hw hp => ?_)
    have hR := hR.trans hp
    clear hp
    generalize ws1 = ws at hw hR
    obtain rfl := Option.some.inj h
    exact hret hw hR d_Re_linkUp_102
  have L21 : ∀ (n21 : Nat) (ws : va_W) (H : Heap) (locs : List Loc) (ls : Array Slot) (s : CS) (v3 : Int64) (v5 : Int64) (v7 : Int32) (v8 : Int32), ct_Wd g A sv ws H locs → cs_Rel g ws0 ws s → lv_has ls 9 [(0, .ref (g.2.1 4)), (1, .int a1), (2, .int a2), (3, .long v3), (5, .long v5), (7, .int v7), (8, .int v8)] → bk_Re_linkUp_21 a1 a2 n21 s v3 v5 v7 v8 = some res → W p l e rm_Re_linkUp sv m args below meth c H locs 0 0 Q (F0 m 21 ls []) := by
    intro n21
    induction n21 with
    | zero =>
      intro ws H locs ls s v3 v5 v7 v8 hw hR hl h
      exact absurd h (by simp [bk_Re_linkUp_21])
    | succ n21 ih21 =>
      have J84 : ∀ (ws : va_W) (H : Heap) (locs : List Loc) (ls : Array Slot) (s : CS) (v3 : Int64) (v5 : Int64) (v7 : Int32) (v8 : Int32), ct_Wd g A sv ws H locs → cs_Rel g ws0 ws s → lv_has ls 9 [(0, .ref (g.2.1 4)), (1, .int a1), (2, .int a2), (3, .long v3), (5, .long v5), (7, .int v7), (8, .int v8)] → bk_Re_linkUp_84 a1 a2 (bk_Re_linkUp_21 a1 a2 n21) s v3 v5 v7 v8 = some res → W p l e rm_Re_linkUp sv m args below meth c H locs 0 0 Q (F0 m 84 ls []) := by
        intro ws H locs ls s v3 v5 v7 v8 hw hR hl h
        unfold bk_Re_linkUp_84 at h
        refine lv_iinc (v := v8 + (-1)) (k := 6) (lv' := [(8, .int (v8 + (-1))), (0, .ref (g.2.1 4)), (1, .int a1), (2, .int a2), (3, .long v3), (5, .long v5), (7, .int v7)]) hx hb d_Re_linkUp_84 hl rfl rfl (by decide) rfl (fun ls hl => ?_)
        refine lv_goto hx hb (tgt := 21) d_Re_linkUp_87 (by decide) ?_
        exact ih21 ws H locs ls s v3 v5 v7 (v8 + (-1)) hw hR (lv_sub hl [1, 2, 3, 4, 5, 6, 0] rfl) h
      intro ws H locs ls s v3 v5 v7 v8 hw hR hl h
      have h : bk_Re_linkUp_21_o a1 a2 (bk_Re_linkUp_21 a1 a2 n21) s v3 v5 v7 v8 = some res := h
      unfold bk_Re_linkUp_21_o at h
      refine lv_iload hx hb d_Re_linkUp_21 (lv_at hl 6 rfl) ?_
      refine lv_if_lt hx hb (tgt := 90) d_Re_linkUp_23 (by decide) (fun hc9 => ?_) (fun hc9 => ?_)
      · rw [if_pos hc9] at h
        exact J90 ws H locs ls s v3 v5 hw hR (lv_sub hl [0, 1, 3, 4] rfl) h
      · rw [if_neg hc9] at h
        refine lv_iload hx hb d_Re_linkUp_26 (lv_at hl 5 rfl) ?_
        refine lv_iload_n hx hb d_Re_linkUp_28 rfl (lv_at hl 2 rfl) ?_
        refine lv_icmp_ge hx hb (tgt := 90) d_Re_linkUp_29 (by decide) (fun hc9 => ?_) (fun hc9 => ?_)
        · rw [if_pos hc9] at h
          exact J90 ws H locs ls s v3 v5 hw hR (lv_sub hl [0, 1, 3, 4] rfl) h
        · rw [if_neg hc9] at h
          refine lv_aload_n hx hb d_Re_linkUp_32 rfl (lv_at hl 0 rfl) ?_
          refine gf_Re_12 C0 hw hR d_Re_linkUp_33 ?_
          refine lv_iload hx hb d_Re_linkUp_36 (lv_at hl 6 rfl) ?_
          refine lv_iload_n hx hb d_Re_linkUp_38 rfl (lv_at hl 1 rfl) ?_
          obtain ⟨x2, ho, h⟩ := ct_ob_some h
          refine ct_callVi C0 hw hl.1 (q0 := 2) (hR.1 2 (by decide)) rfl (ct_giV wd_476 wd_477 wd_478 wd_4 wd_479) (fun sz => s_Tr_takes l g ws sz hR.rf ho) (nA := 2) (rm := rm_Tr_takes) (by decide +kernel) rfl ⟨rfl, rfl⟩ (by decide) (by decide) (As := [.int v8, .int a1]) (rest := []) rfl (Nat.le_of_ble_eq_true rfl) d_Re_linkUp_39 (fun ws1 H locs hw hp => ?_)
          rw [hp] at hw
          clear hp
          refine lv_if_eq hx hb (tgt := 84) d_Re_linkUp_42 (by decide) (fun hc9 => ?_) (fun hc9 => ?_)
          · rw [if_pos hc9] at h
            exact J84 ws H locs ls s v3 v5 v7 v8 hw hR (lv_sub hl [0, 1, 2, 3, 4, 5, 6] rfl) h
          · rw [if_neg hc9] at h
            refine lv_lload_n hx hb d_Re_linkUp_45 rfl (lv_at hl 3 rfl) ?_
            refine lv_aload_n hx hb d_Re_linkUp_46 rfl (lv_at hl 0 rfl) ?_
            refine gf_Re_12 C0 hw hR d_Re_linkUp_47 ?_
            refine gf_Re_63 C0 hw hR d_Re_linkUp_50 ?_
            refine lv_iload hx hb d_Re_linkUp_53 (lv_at hl 6 rfl) ?_
            obtain ⟨hg55, h⟩ := ct_gd_some h
            refine ct_ldoc C0 hw hR (ct_inR_vp hg55) d_Re_linkUp_55 ?_
            refine lv_iload_n hx hb d_Re_linkUp_56 rfl (lv_at hl 1 rfl) ?_
            refine lv_iconst (v := 1) hx hb d_Re_linkUp_57 (by decide) ?_
            refine lv_iadd hx hb d_Re_linkUp_58 ?_
            obtain ⟨hg59, h⟩ := ct_gd_some h
            refine ct_ldrw C0 hw hR (ct_inR_lt hg55) (ct_inR_vp hg59) d_Re_linkUp_59 ?_
            refine lv_i2l hx hb d_Re_linkUp_60 rfl ?_
            refine lv_ladd hx hb d_Re_linkUp_61 ?_
            refine lv_topl (fun x3 e9 => ?_)
            have h := ct_nm_at h e9
            clear e9
            refine lv_lstore_n (lv' := [(3, .long x3), (0, .ref (g.2.1 4)), (1, .int a1), (2, .int a2), (5, .long v5), (7, .int v7), (8, .int v8)]) hx hb d_Re_linkUp_62 rfl hl (by decide) rfl (fun ls hl => ?_)
            refine lv_lload hx hb d_Re_linkUp_63 (lv_at hl 4 rfl) ?_
            refine lv_aload_n hx hb d_Re_linkUp_65 rfl (lv_at hl 1 rfl) ?_
            refine gf_Re_12 C0 hw hR d_Re_linkUp_66 ?_
            refine gf_Re_63 C0 hw hR d_Re_linkUp_69 ?_
            refine lv_iload hx hb d_Re_linkUp_72 (lv_at hl 6 rfl) ?_
            obtain ⟨hg74, h⟩ := ct_gd_some h
            refine ct_ldoc C0 hw hR (ct_inR_vp hg74) d_Re_linkUp_74 ?_
            refine lv_iload_n hx hb d_Re_linkUp_75 rfl (lv_at hl 2 rfl) ?_
            obtain ⟨hg76, h⟩ := ct_gd_some h
            refine ct_ldrw C0 hw hR (ct_inR_lt hg74) (ct_inR_vp hg76) d_Re_linkUp_76 ?_
            refine lv_i2l hx hb d_Re_linkUp_77 rfl ?_
            refine lv_ladd hx hb d_Re_linkUp_78 ?_
            refine lv_topl (fun x4 e9 => ?_)
            have h := ct_nm_at h e9
            clear e9
            refine lv_lstore (lv' := [(5, .long x4), (3, .long x3), (0, .ref (g.2.1 4)), (1, .int a1), (2, .int a2), (7, .int v7), (8, .int v8)]) hx hb d_Re_linkUp_79 hl (by decide) rfl (fun ls hl => ?_)
            refine lv_iinc (v := v7 + 1) (k := 5) (lv' := [(7, .int (v7 + 1)), (5, .long x4), (3, .long x3), (0, .ref (g.2.1 4)), (1, .int a1), (2, .int a2), (8, .int v8)]) hx hb d_Re_linkUp_81 hl rfl rfl (by decide) rfl (fun ls hl => ?_)
            exact J84 ws H locs ls s x3 x4 (v7 + 1) v8 hw hR (lv_sub hl [3, 4, 5, 2, 1, 0, 6] rfl) h
  unfold fn_Re_linkUp at h
  obtain ⟨ws, hwe⟩ : ∃ z : va_W, z = ws0 := ⟨_, rfl⟩
  rw [← hwe] at hw
  have hR : cs_Rel g ws0 ws s := by rw [hwe]; exact hR
  clear hwe
  refine lv_lconst (v := 0) hx hb d_Re_linkUp_0 (by decide) ?_
  refine lv_lstore_n (lv' := [(3, .long 0), (0, .ref (g.2.1 4)), (1, .int a1), (2, .int a2)]) hx hb d_Re_linkUp_1 rfl hl (by decide) rfl (fun ls hl => ?_)
  refine lv_lconst (v := 0) hx hb d_Re_linkUp_2 (by decide) ?_
  refine lv_lstore (lv' := [(5, .long 0), (3, .long 0), (0, .ref (g.2.1 4)), (1, .int a1), (2, .int a2)]) hx hb d_Re_linkUp_3 hl (by decide) rfl (fun ls hl => ?_)
  refine lv_iconst (v := 0) hx hb d_Re_linkUp_5 (by decide) ?_
  refine lv_istore (lv' := [(7, .int 0), (5, .long 0), (3, .long 0), (0, .ref (g.2.1 4)), (1, .int a1), (2, .int a2)]) hx hb d_Re_linkUp_6 hl (by decide) rfl (fun ls hl => ?_)
  refine lv_aload_n hx hb d_Re_linkUp_8 rfl (lv_at hl 3 rfl) ?_
  refine gf_Re_12 C0 hw hR d_Re_linkUp_9 ?_
  obtain ⟨x5, ho, h⟩ := ct_ob_some h
  refine ct_callVi C0 hw hl.1 (q0 := 2) (hR.1 2 (by decide)) rfl (ct_giV wd_471 wd_424 wd_425 wd_4 wd_426) (fun sz => s_Tr_shown l g ws sz hR.rf ho) (nA := 0) (rm := rm_Tr_shown) (by decide +kernel) rfl ⟨rfl, rfl⟩ (by decide) (by decide) (As := []) (rest := []) rfl (Nat.le_of_ble_eq_true rfl) d_Re_linkUp_12 (fun ws1 H locs hw hp => ?_)
  rw [hp] at hw
  clear hp
  refine lv_iconst (v := 2) hx hb d_Re_linkUp_15 (by decide) ?_
  refine lv_isub hx hb d_Re_linkUp_16 ?_
  refine lv_iload_n hx hb d_Re_linkUp_17 rfl (lv_at hl 4 rfl) ?_
  refine lv_isub hx hb d_Re_linkUp_18 ?_
  refine lv_topi (fun x6 e9 => ?_)
  have h := ct_nm_at h e9
  clear e9
  refine lv_istore (lv' := [(8, .int x6), (7, .int 0), (5, .long 0), (3, .long 0), (0, .ref (g.2.1 4)), (1, .int a1), (2, .int a2)]) hx hb d_Re_linkUp_19 hl (by decide) rfl (fun ls hl => ?_)
  exact L21 200 ws H locs ls s 0 0 0 x6 hw hR (lv_sub hl [4, 5, 6, 3, 2, 1, 0] rfl) h

theorem d_Re_prepare_0 : decode c_Re_prepare 0 = .ok (.iload_n 1, 1) := by decide +kernel
theorem d_Re_prepare_1 : decode c_Re_prepare 1 = .ok (.iconst 1, 1) := by decide +kernel
theorem d_Re_prepare_2 : decode c_Re_prepare 2 = .ok (.if_icmp .ne 13, 3) := by decide +kernel
theorem d_Re_prepare_5 : decode c_Re_prepare 5 = .ok (.aload_n 0, 1) := by decide +kernel
theorem d_Re_prepare_6 : decode c_Re_prepare 6 = .ok (.getfield 21, 3) := by decide +kernel
theorem d_Re_prepare_9 : decode c_Re_prepare 9 = .ok (.getfield 47, 3) := by decide +kernel
theorem d_Re_prepare_12 : decode c_Re_prepare 12 = .ok (.goto 5, 3) := by decide +kernel
theorem d_Re_prepare_15 : decode c_Re_prepare 15 = .ok (.bipush 6, 2) := by decide +kernel
theorem d_Re_prepare_17 : decode c_Re_prepare 17 = .ok (.istore_n 2, 1) := by decide +kernel
theorem d_Re_prepare_18 : decode c_Re_prepare 18 = .ok (.iconst 0, 1) := by decide +kernel
theorem d_Re_prepare_19 : decode c_Re_prepare 19 = .ok (.istore_n 3, 1) := by decide +kernel
theorem d_Re_prepare_20 : decode c_Re_prepare 20 = .ok (.iload_n 3, 1) := by decide +kernel
theorem d_Re_prepare_21 : decode c_Re_prepare 21 = .ok (.aload_n 0, 1) := by decide +kernel
theorem d_Re_prepare_22 : decode c_Re_prepare 22 = .ok (.getfield 12, 3) := by decide +kernel
theorem d_Re_prepare_25 : decode c_Re_prepare 25 = .ok (.invokevirtual 51, 3) := by decide +kernel
theorem d_Re_prepare_28 : decode c_Re_prepare 28 = .ok (.iconst 1, 1) := by decide +kernel
theorem d_Re_prepare_29 : decode c_Re_prepare 29 = .ok (.isub, 1) := by decide +kernel
theorem d_Re_prepare_30 : decode c_Re_prepare 30 = .ok (.if_icmp .ge 15, 3) := by decide +kernel
theorem d_Re_prepare_33 : decode c_Re_prepare 33 = .ok (.aload_n 0, 1) := by decide +kernel
theorem d_Re_prepare_34 : decode c_Re_prepare 34 = .ok (.iload_n 3, 1) := by decide +kernel
theorem d_Re_prepare_35 : decode c_Re_prepare 35 = .ok (.iload_n 2, 1) := by decide +kernel
theorem d_Re_prepare_36 : decode c_Re_prepare 36 = .ok (.invokevirtual 55, 3) := by decide +kernel
theorem d_Re_prepare_39 : decode c_Re_prepare 39 = .ok (.iinc 3 1, 3) := by decide +kernel
theorem d_Re_prepare_42 : decode c_Re_prepare 42 = .ok (.goto (-22), 3) := by decide +kernel
theorem d_Re_prepare_45 : decode c_Re_prepare 45 = .ok (.return_, 1) := by decide +kernel
set_option maxHeartbeats 4000000 in
set_option maxRecDepth 100000 in
theorem s_Re_prepare (l : Launch) (g : Gx) (ws0 : va_W) (sz : Nat) {s : CS} {a1 : Int32} {res : CS} (hR : cs_Rel g ws0 ws0 s) (h : fn_Re_prepare s a1 = some res) : ct_MV l y_Re_prepare c_Re_prepare 4 none rm_Re_prepare g ws0 sz [.ref (g.2.1 4), .int a1]  (fun u => cs_Rel g ws0 u res) := by
  refine ct_startv (by decide +kernel) (Nat.le_of_ble_eq_true rfl) (fun p e sv m args below meth c ls Q A H locs C0 hret hl hw => ?_)
  have hx := C0.1
  have hb := C0.2.1
  have hown := C0.2.2.2.1
  have hts := C0.2.2.2.2.1
  have hl : lv_has ls 4 [(0, .ref (g.2.1 4)), (1, .int a1)] := hl
  have L20 : ∀ (n20 : Nat) (ws : va_W) (H : Heap) (locs : List Loc) (ls : Array Slot) (s : CS) (v2 : Int32) (v3 : Int32), ct_Wd g A sv ws H locs → cs_Rel g ws0 ws s → lv_has ls 4 [(0, .ref (g.2.1 4)), (2, .int v2), (3, .int v3)] → bk_Re_prepare_20 a1 n20 s v2 v3 = some res → W p l e rm_Re_prepare sv m args below meth c H locs 0 0 Q (F0 m 20 ls []) := by
    intro n20
    induction n20 with
    | zero =>
      intro ws H locs ls s v2 v3 hw hR hl h
      exact absurd h (by simp [bk_Re_prepare_20])
    | succ n20 ih20 =>
      intro ws H locs ls s v2 v3 hw hR hl h
      have h : bk_Re_prepare_20_o a1 (bk_Re_prepare_20 a1 n20) s v2 v3 = some res := h
      unfold bk_Re_prepare_20_o at h
      refine lv_iload_n hx hb d_Re_prepare_20 rfl (lv_at hl 2 rfl) ?_
      refine lv_aload_n hx hb d_Re_prepare_21 rfl (lv_at hl 0 rfl) ?_
      refine gf_Re_12 C0 hw hR d_Re_prepare_22 ?_
      obtain ⟨x1, ho, h⟩ := ct_ob_some h
      refine ct_callVi C0 hw hl.1 (q0 := 2) (hR.1 2 (by decide)) rfl (ct_giV wd_471 wd_424 wd_425 wd_4 wd_426) (fun sz => s_Tr_shown l g ws sz hR.rf ho) (nA := 0) (rm := rm_Tr_shown) (by decide +kernel) rfl ⟨rfl, rfl⟩ (by decide) (by decide) (As := []) (rest := [.int v3]) rfl (Nat.le_of_ble_eq_true rfl) d_Re_prepare_25 (fun ws1 H locs hw hp => ?_)
      rw [hp] at hw
      clear hp
      refine lv_iconst (v := 1) hx hb d_Re_prepare_28 (by decide) ?_
      refine lv_isub hx hb d_Re_prepare_29 ?_
      refine lv_icmp_ge hx hb (tgt := 45) d_Re_prepare_30 (by decide) (fun hc9 => ?_) (fun hc9 => ?_)
      · rw [if_pos hc9] at h
        obtain rfl := Option.some.inj h
        exact hret hw hR d_Re_prepare_45
      · rw [if_neg hc9] at h
        refine lv_aload_n hx hb d_Re_prepare_33 rfl (lv_at hl 0 rfl) ?_
        refine lv_iload_n hx hb d_Re_prepare_34 rfl (lv_at hl 2 rfl) ?_
        refine lv_iload_n hx hb d_Re_prepare_35 rfl (lv_at hl 1 rfl) ?_
        obtain ⟨s2, ho, h⟩ := ct_ob_some h
        refine ct_callVv C0 hw hl.1 (q0 := 4) (hR.1 4 (by decide)) rfl (ct_giV wd_472 wd_474 sel_Re_linkUp wd_3 wd_475) (fun sz => s_Re_linkUp l g ws sz hR.rf ho) (nA := 2) (rm := rm_Re_linkUp) (by decide +kernel) rfl ⟨rfl, rfl⟩ (by decide) (by decide) (As := [.int v3, .int v2]) (rest := []) rfl (Nat.le_of_ble_eq_true rfl) d_Re_prepare_36 (fun ws1 H locs hw hp => ?_)
        have hR := hR.trans hp
        clear hp
        generalize ws1 = ws at hw hR
        refine lv_iinc (v := v3 + 1) (k := 2) (lv' := [(3, .int (v3 + 1)), (0, .ref (g.2.1 4)), (2, .int v2)]) hx hb d_Re_prepare_39 hl rfl rfl (by decide) rfl (fun ls hl => ?_)
        refine lv_goto hx hb (tgt := 20) d_Re_prepare_42 (by decide) ?_
        exact ih20 ws H locs ls s2 v2 (v3 + 1) hw hR (lv_sub hl [1, 2, 0] rfl) h
  have J17 : ∀ (ws : va_W) (H : Heap) (locs : List Loc) (ls : Array Slot) (s : CS) (t0 : Int32), ct_Wd g A sv ws H locs → cs_Rel g ws0 ws s → lv_has ls 4 [(0, .ref (g.2.1 4))] → bk_Re_prepare_17 a1 s t0 = some res → W p l e rm_Re_prepare sv m args below meth c H locs 0 0 Q (F0 m 17 ls [.int t0]) := by
    intro ws H locs ls s t0 hw hR hl h
    unfold bk_Re_prepare_17 at h
    refine lv_istore_n (lv' := [(2, .int t0), (0, .ref (g.2.1 4))]) hx hb d_Re_prepare_17 rfl hl (by decide) rfl (fun ls hl => ?_)
    refine lv_iconst (v := 0) hx hb d_Re_prepare_18 (by decide) ?_
    refine lv_istore_n (lv' := [(3, .int 0), (2, .int t0), (0, .ref (g.2.1 4))]) hx hb d_Re_prepare_19 rfl hl (by decide) rfl (fun ls hl => ?_)
    exact L20 200 ws H locs ls s t0 0 hw hR (lv_sub hl [2, 1, 0] rfl) h
  unfold fn_Re_prepare at h
  obtain ⟨ws, hwe⟩ : ∃ z : va_W, z = ws0 := ⟨_, rfl⟩
  rw [← hwe] at hw
  have hR : cs_Rel g ws0 ws s := by rw [hwe]; exact hR
  clear hwe
  refine lv_iload_n hx hb d_Re_prepare_0 rfl (lv_at hl 1 rfl) ?_
  refine lv_iconst (v := 1) hx hb d_Re_prepare_1 (by decide) ?_
  refine lv_icmp_ne hx hb (tgt := 15) d_Re_prepare_2 (by decide) (fun hc9 => ?_) (fun hc9 => ?_)
  · rw [if_pos hc9] at h
    refine lv_bipush (v := 6) hx hb d_Re_prepare_15 (by decide) ?_
    exact J17 ws H locs ls s 6 hw hR (lv_sub hl [0] rfl) h
  · rw [if_neg (fun q => q hc9)] at h
    refine lv_aload_n hx hb d_Re_prepare_5 rfl (lv_at hl 0 rfl) ?_
    refine gf_Re_21 C0 hw hR d_Re_prepare_6 ?_
    refine gf_Re_47 C0 hw hR d_Re_prepare_9 ?_
    refine lv_goto hx hb (tgt := 17) d_Re_prepare_12 (by decide) ?_
    exact J17 ws H locs ls s (cs_I s 6) hw hR (lv_sub hl [0] rfl) h

theorem d_Fr_copy_0 : decode c_Fr_copy 0 = .ok (.aload_n 0, 1) := by decide +kernel
theorem d_Fr_copy_1 : decode c_Fr_copy 1 = .ok (.aload_n 1, 1) := by decide +kernel
theorem d_Fr_copy_2 : decode c_Fr_copy 2 = .ok (.getfield 19, 3) := by decide +kernel
theorem d_Fr_copy_5 : decode c_Fr_copy 5 = .ok (.putfield 19, 3) := by decide +kernel
theorem d_Fr_copy_8 : decode c_Fr_copy 8 = .ok (.aload_n 0, 1) := by decide +kernel
theorem d_Fr_copy_9 : decode c_Fr_copy 9 = .ok (.aload_n 1, 1) := by decide +kernel
theorem d_Fr_copy_10 : decode c_Fr_copy 10 = .ok (.getfield 9, 3) := by decide +kernel
theorem d_Fr_copy_13 : decode c_Fr_copy 13 = .ok (.putfield 9, 3) := by decide +kernel
theorem d_Fr_copy_16 : decode c_Fr_copy 16 = .ok (.aload_n 0, 1) := by decide +kernel
theorem d_Fr_copy_17 : decode c_Fr_copy 17 = .ok (.aload_n 1, 1) := by decide +kernel
theorem d_Fr_copy_18 : decode c_Fr_copy 18 = .ok (.getfield 15, 3) := by decide +kernel
theorem d_Fr_copy_21 : decode c_Fr_copy 21 = .ok (.putfield 15, 3) := by decide +kernel
theorem d_Fr_copy_24 : decode c_Fr_copy 24 = .ok (.return_, 1) := by decide +kernel
set_option maxHeartbeats 4000000 in
set_option maxRecDepth 100000 in
theorem s_Fr_copy (l : Launch) (g : Gx) (ws0 : va_W) (sz : Nat) {s : CS} {f : Nat} {a1 : Nat} {res : CS} (hR : cs_Rel g ws0 ws0 s) (hf : f < 12) (ha1 : a1 < 12) (h : fn_Fr_copy s f a1 = some res) : ct_MV l y_Fr_copy c_Fr_copy 2 none rm_Fr_copy g ws0 sz [.ref (g.2.1 (23 + f)), .ref (g.2.1 (23 + a1))]  (fun u => cs_Rel g ws0 u res) := by
  refine ct_startv (by decide +kernel) (Nat.le_of_ble_eq_true rfl) (fun p e sv m args below meth c ls Q A H locs C0 hret hl hw => ?_)
  have hx := C0.1
  have hb := C0.2.1
  have hown := C0.2.2.2.1
  have hts := C0.2.2.2.2.1
  have hl : lv_has ls 2 [(0, .ref (g.2.1 (23 + f))), (1, .ref (g.2.1 (23 + a1)))] := hl
  unfold fn_Fr_copy at h
  obtain ⟨ws, hwe⟩ : ∃ z : va_W, z = ws0 := ⟨_, rfl⟩
  rw [← hwe] at hw
  have hR : cs_Rel g ws0 ws s := by rw [hwe]; exact hR
  clear hwe
  refine lv_aload_n hx hb d_Fr_copy_0 rfl (lv_at hl 0 rfl) ?_
  refine lv_aload_n hx hb d_Fr_copy_1 rfl (lv_at hl 1 rfl) ?_
  refine gf_Fr_19 (f := a1) ha1 C0 hw hR d_Fr_copy_2 ?_
  refine pf_Fr_19 (f := f) hf C0 hw hR d_Fr_copy_5 (fun ws H locs hw hR => ?_)
  obtain ⟨s1, es9, h⟩ := ct_nm_ex h
  rw [← es9] at hR
  clear es9
  refine lv_aload_n hx hb d_Fr_copy_8 rfl (lv_at hl 0 rfl) ?_
  refine lv_aload_n hx hb d_Fr_copy_9 rfl (lv_at hl 1 rfl) ?_
  refine gf_Fr_9 (f := a1) ha1 C0 hw hR d_Fr_copy_10 ?_
  refine pf_Fr_9 (f := f) hf C0 hw hR d_Fr_copy_13 (fun ws H locs hw hR => ?_)
  obtain ⟨s2, es9, h⟩ := ct_nm_ex h
  rw [← es9] at hR
  clear es9
  refine lv_aload_n hx hb d_Fr_copy_16 rfl (lv_at hl 0 rfl) ?_
  refine lv_aload_n hx hb d_Fr_copy_17 rfl (lv_at hl 1 rfl) ?_
  refine gf_Fr_15 (f := a1) ha1 C0 hw hR d_Fr_copy_18 ?_
  refine pf_Fr_15 (f := f) hf C0 hw hR d_Fr_copy_21 (fun ws H locs hw hR => ?_)
  obtain ⟨s3, es9, h⟩ := ct_nm_ex h
  rw [← es9] at hR
  clear es9
  obtain rfl := Option.some.inj h
  exact hret hw hR d_Fr_copy_24

theorem d_Re_toLink_0 : decode c_Re_toLink 0 = .ok (.aload_n 0, 1) := by decide +kernel
theorem d_Re_toLink_1 : decode c_Re_toLink 1 = .ok (.getfield 34, 3) := by decide +kernel
theorem d_Re_toLink_4 : decode c_Re_toLink 4 = .ok (.aload_n 0, 1) := by decide +kernel
theorem d_Re_toLink_5 : decode c_Re_toLink 5 = .ok (.getfield 27, 3) := by decide +kernel
theorem d_Re_toLink_8 : decode c_Re_toLink 8 = .ok (.iload_n 1, 1) := by decide +kernel
theorem d_Re_toLink_9 : decode c_Re_toLink 9 = .ok (.aaload, 1) := by decide +kernel
theorem d_Re_toLink_10 : decode c_Re_toLink 10 = .ok (.invokevirtual 71, 3) := by decide +kernel
theorem d_Re_toLink_13 : decode c_Re_toLink 13 = .ok (.return_, 1) := by decide +kernel
set_option maxHeartbeats 4000000 in
set_option maxRecDepth 100000 in
theorem s_Re_toLink (l : Launch) (g : Gx) (ws0 : va_W) (sz : Nat) {s : CS} {a1 : Int32} {res : CS} (hR : cs_Rel g ws0 ws0 s) (h : fn_Re_toLink s a1 = some res) : ct_MV l y_Re_toLink c_Re_toLink 2 none rm_Re_toLink g ws0 sz [.ref (g.2.1 4), .int a1]  (fun u => cs_Rel g ws0 u res) := by
  refine ct_startv (by decide +kernel) (Nat.le_of_ble_eq_true rfl) (fun p e sv m args below meth c ls Q A H locs C0 hret hl hw => ?_)
  have hx := C0.1
  have hb := C0.2.1
  have hown := C0.2.2.2.1
  have hts := C0.2.2.2.2.1
  have hl : lv_has ls 2 [(0, .ref (g.2.1 4)), (1, .int a1)] := hl
  unfold fn_Re_toLink at h
  obtain ⟨ws, hwe⟩ : ∃ z : va_W, z = ws0 := ⟨_, rfl⟩
  rw [← hwe] at hw
  have hR : cs_Rel g ws0 ws s := by rw [hwe]; exact hR
  clear hwe
  refine lv_aload_n hx hb d_Re_toLink_0 rfl (lv_at hl 0 rfl) ?_
  refine gf_Re_34 C0 hw hR d_Re_toLink_1 ?_
  refine lv_aload_n hx hb d_Re_toLink_4 rfl (lv_at hl 0 rfl) ?_
  refine gf_Re_27 C0 hw hR d_Re_toLink_5 ?_
  refine lv_iload_n hx hb d_Re_toLink_8 rfl (lv_at hl 1 rfl) ?_
  obtain ⟨hg9, h⟩ := ct_gd_some h
  refine ct_ldlk C0 hw hR (ct_inR_vp hg9) d_Re_toLink_9 ?_
  obtain ⟨s1, ho, h⟩ := ct_ob_some h
  refine ct_callVv C0 hw hl.1 (hR.F (f := 8) (by decide)) rfl (ct_giV wd_485 wd_486 wd_487 wd_6 wd_488) (fun sz => s_Fr_copy l g ws sz hR.rf (by decide) (by have := ct_inR_lt hg9; omega) ho) (nA := 1) (rm := rm_Fr_copy) (by decide +kernel) rfl ⟨rfl, rfl⟩ (by decide) (by decide) (As := [.ref (g.2.1 (23 + (3 + a1.toNatClampNeg)))]) (rest := []) rfl (Nat.le_of_ble_eq_true rfl) d_Re_toLink_10 (fun ws1 H locs hw hp => ?_)
  have hR := hR.trans hp
  clear hp
  generalize ws1 = ws at hw hR
  obtain rfl := Option.some.inj h
  exact hret hw hR d_Re_toLink_13

theorem d_CT_checkAnswer_0 : decode c_CT_checkAnswer 0 = .ok (.aload_n 0, 1) := by decide +kernel
theorem d_CT_checkAnswer_1 : decode c_CT_checkAnswer 1 = .ok (.getfield 19, 3) := by decide +kernel
theorem d_CT_checkAnswer_4 : decode c_CT_checkAnswer 4 = .ok (.getfield 156, 3) := by decide +kernel
theorem d_CT_checkAnswer_7 : decode c_CT_checkAnswer 7 = .ok (.getfield 211, 3) := by decide +kernel
theorem d_CT_checkAnswer_10 : decode c_CT_checkAnswer 10 = .ok (.iconst 2, 1) := by decide +kernel
theorem d_CT_checkAnswer_11 : decode c_CT_checkAnswer 11 = .ok (.if_icmp .ne 13, 3) := by decide +kernel
theorem d_CT_checkAnswer_14 : decode c_CT_checkAnswer 14 = .ok (.new 214, 3) := by decide +kernel
theorem d_CT_checkAnswer_17 : decode c_CT_checkAnswer 17 = .ok (.dup, 1) := by decide +kernel
theorem d_CT_checkAnswer_18 : decode c_CT_checkAnswer 18 = .ok (.ldc 216, 2) := by decide +kernel
theorem d_CT_checkAnswer_20 : decode c_CT_checkAnswer 20 = .ok (.invokespecial 218, 3) := by decide +kernel
theorem d_CT_checkAnswer_23 : decode c_CT_checkAnswer 23 = .ok (.athrow, 1) := by decide +kernel
theorem d_CT_checkAnswer_24 : decode c_CT_checkAnswer 24 = .ok (.aload_n 0, 1) := by decide +kernel
theorem d_CT_checkAnswer_25 : decode c_CT_checkAnswer 25 = .ok (.getfield 19, 3) := by decide +kernel
theorem d_CT_checkAnswer_28 : decode c_CT_checkAnswer 28 = .ok (.getfield 156, 3) := by decide +kernel
theorem d_CT_checkAnswer_31 : decode c_CT_checkAnswer 31 = .ok (.getfield 211, 3) := by decide +kernel
theorem d_CT_checkAnswer_34 : decode c_CT_checkAnswer 34 = .ok (.iconst 1, 1) := by decide +kernel
theorem d_CT_checkAnswer_35 : decode c_CT_checkAnswer 35 = .ok (.if_icmp .ne 13, 3) := by decide +kernel
theorem d_CT_checkAnswer_38 : decode c_CT_checkAnswer 38 = .ok (.new 219, 3) := by decide +kernel
theorem d_CT_checkAnswer_41 : decode c_CT_checkAnswer 41 = .ok (.dup, 1) := by decide +kernel
theorem d_CT_checkAnswer_42 : decode c_CT_checkAnswer 42 = .ok (.ldc 221, 2) := by decide +kernel
theorem d_CT_checkAnswer_44 : decode c_CT_checkAnswer 44 = .ok (.invokespecial 223, 3) := by decide +kernel
theorem d_CT_checkAnswer_47 : decode c_CT_checkAnswer 47 = .ok (.athrow, 1) := by decide +kernel
theorem d_CT_checkAnswer_48 : decode c_CT_checkAnswer 48 = .ok (.return_, 1) := by decide +kernel
set_option maxHeartbeats 4000000 in
set_option maxRecDepth 100000 in
theorem s_CT_checkAnswer (l : Launch) (g : Gx) (ws0 : va_W) (sz : Nat) {s : CS} {res : ((Nat × CS) ⊕ CS)} (hR : cs_Rel g ws0 ws0 s) (hl0 : l.stackTraces = false) (h : fn_CT_checkAnswer s = some res) : ct_XV l y_CT_checkAnswer c_CT_checkAnswer 1 none rm_CT_checkAnswer g ws0 sz [.ref (g.2.1 0)] res 1 6 := by
  refine ct_startXv hl0 (by decide +kernel) rfl (Nat.le_of_ble_eq_true rfl) (fun p e sv m args below meth c ls Q A H locs C0 hret hout hthr hl hw => ?_)
  have hx := C0.1
  have hb := C0.2.1
  have hown := C0.2.2.2.1
  have hts := C0.2.2.2.2.1
  have hl : lv_has ls 1 [(0, .ref (g.2.1 0))] := hl
  unfold fn_CT_checkAnswer at h
  obtain ⟨ws, hwe⟩ : ∃ z : va_W, z = ws0 := ⟨_, rfl⟩
  rw [← hwe] at hw
  have hR : cs_Rel g ws0 ws s := by rw [hwe]; exact hR
  clear hwe
  refine lv_aload_n hx hb d_CT_checkAnswer_0 rfl (lv_at hl 0 rfl) ?_
  refine gf_CT_19 C0 hw hR d_CT_checkAnswer_1 ?_
  refine gf_CT_156 C0 hw hR d_CT_checkAnswer_4 ?_
  refine gf_CT_211 (f := 8) (by decide) C0 hw hR d_CT_checkAnswer_7 ?_
  refine lv_iconst (v := 2) hx hb d_CT_checkAnswer_10 (by decide) ?_
  refine lv_icmp_ne hx hb (tgt := 24) d_CT_checkAnswer_11 (by decide) (fun hc9 => ?_) (fun hc9 => ?_)
  · rw [if_pos hc9] at h
    refine lv_aload_n hx hb d_CT_checkAnswer_24 rfl (lv_at hl 0 rfl) ?_
    refine gf_CT_19 C0 hw hR d_CT_checkAnswer_25 ?_
    refine gf_CT_156 C0 hw hR d_CT_checkAnswer_28 ?_
    refine gf_CT_211 (f := 8) (by decide) C0 hw hR d_CT_checkAnswer_31 ?_
    refine lv_iconst (v := 1) hx hb d_CT_checkAnswer_34 (by decide) ?_
    refine lv_icmp_ne hx hb (tgt := 48) d_CT_checkAnswer_35 (by decide) (fun hc9 => ?_) (fun hc9 => ?_)
    · rw [if_pos hc9] at h
      obtain rfl := Option.some.inj h
      exact hret hw ⟨_, rfl, hR⟩ (by decide) (by decide) d_CT_checkAnswer_48
    · rw [if_neg (fun q => q hc9)] at h
      obtain rfl := Option.some.inj h
      exact hthr (X := "java/lang/UnsupportedOperationException") (k := 4) hl.1 hw hR rfl rfl (by decide +kernel) wd_513 wd_15 (by decide +kernel : (221, "a step is too long") ∈ ct_str) ok_thr_223.1 ok_thr_223.2 (ok_thr_223_g _) d_CT_checkAnswer_38 d_CT_checkAnswer_41 d_CT_checkAnswer_42 d_CT_checkAnswer_44 d_CT_checkAnswer_47 (by decide) (Nat.le_of_ble_eq_true rfl) (by decide) (by decide) (by decide) (by decide)
  · rw [if_neg (fun q => q hc9)] at h
    obtain rfl := Option.some.inj h
    exact hthr (X := "java/lang/ArithmeticException") (k := 3) hl.1 hw hR rfl rfl (by decide +kernel) wd_497 wd_14 (by decide +kernel : (216, "undefined") ∈ ct_str) ok_thr_218.1 ok_thr_218.2 (ok_thr_218_g _) d_CT_checkAnswer_14 d_CT_checkAnswer_17 d_CT_checkAnswer_18 d_CT_checkAnswer_20 d_CT_checkAnswer_23 (by decide) (Nat.le_of_ble_eq_true rfl) (by decide) (by decide) (by decide) (by decide)

theorem d_CT_partOfAnswer_0 : decode c_CT_partOfAnswer 0 = .ok (.aload_n 0, 1) := by decide +kernel
theorem d_CT_partOfAnswer_1 : decode c_CT_partOfAnswer 1 = .ok (.invokevirtual 153, 3) := by decide +kernel
theorem d_CT_partOfAnswer_4 : decode c_CT_partOfAnswer 4 = .ok (.iload_n 1, 1) := by decide +kernel
theorem d_CT_partOfAnswer_5 : decode c_CT_partOfAnswer 5 = .ok (.ifCond .eq 16, 3) := by decide +kernel
theorem d_CT_partOfAnswer_8 : decode c_CT_partOfAnswer 8 = .ok (.aload_n 0, 1) := by decide +kernel
theorem d_CT_partOfAnswer_9 : decode c_CT_partOfAnswer 9 = .ok (.getfield 19, 3) := by decide +kernel
theorem d_CT_partOfAnswer_12 : decode c_CT_partOfAnswer 12 = .ok (.getfield 156, 3) := by decide +kernel
theorem d_CT_partOfAnswer_15 : decode c_CT_partOfAnswer 15 = .ok (.getfield 204, 3) := by decide +kernel
theorem d_CT_partOfAnswer_18 : decode c_CT_partOfAnswer 18 = .ok (.goto 13, 3) := by decide +kernel
theorem d_CT_partOfAnswer_21 : decode c_CT_partOfAnswer 21 = .ok (.aload_n 0, 1) := by decide +kernel
theorem d_CT_partOfAnswer_22 : decode c_CT_partOfAnswer 22 = .ok (.getfield 19, 3) := by decide +kernel
theorem d_CT_partOfAnswer_25 : decode c_CT_partOfAnswer 25 = .ok (.getfield 156, 3) := by decide +kernel
theorem d_CT_partOfAnswer_28 : decode c_CT_partOfAnswer 28 = .ok (.getfield 208, 3) := by decide +kernel
theorem d_CT_partOfAnswer_31 : decode c_CT_partOfAnswer 31 = .ok (.lreturn, 1) := by decide +kernel
set_option maxHeartbeats 4000000 in
set_option maxRecDepth 100000 in
theorem s_CT_partOfAnswer (l : Launch) (g : Gx) (ws0 : va_W) (sz : Nat) {s : CS} {a1 : Int32} {res : ((Nat × CS) ⊕ (Int64 × CS))} (hR : cs_Rel g ws0 ws0 s) (hl0 : l.stackTraces = false) (h : fn_CT_partOfAnswer s a1 = some res) : ct_XL l y_CT_partOfAnswer c_CT_partOfAnswer 2 (some .long) rm_CT_partOfAnswer g ws0 sz [.ref (g.2.1 0), .int a1] res 1 6 := by
  refine ct_startXl hl0 (by decide +kernel) rfl (Nat.le_of_ble_eq_true rfl) (fun p e sv m args below meth c ls Q A H locs C0 hret hout hthr hl hw => ?_)
  have hx := C0.1
  have hb := C0.2.1
  have hown := C0.2.2.2.1
  have hts := C0.2.2.2.2.1
  have hl : lv_has ls 2 [(0, .ref (g.2.1 0)), (1, .int a1)] := hl
  unfold fn_CT_partOfAnswer at h
  obtain ⟨ws, hwe⟩ : ∃ z : va_W, z = ws0 := ⟨_, rfl⟩
  rw [← hwe] at hw
  have hR : cs_Rel g ws0 ws s := by rw [hwe]; exact hR
  clear hwe
  refine lv_aload_n hx hb d_CT_partOfAnswer_0 rfl (lv_at hl 0 rfl) ?_
  obtain ⟨o1, ho, h⟩ := ct_xb_some h
  refine ct_callVXv C0 hw hl.1 (q0 := 0) (hR.1 0 (by decide)) rfl (ct_giV wd_493 wd_495 sel_CT_checkAnswer wd_1 wd_496) (fun sz => s_CT_checkAnswer l g ws sz hR.rf hl0 ho) (nA := 0) (rm := rm_CT_checkAnswer) (by decide +kernel) rfl ⟨rfl, rfl⟩ (by decide) (by decide) (As := []) (rest := []) rfl (Nat.le_of_ble_eq_true rfl) d_CT_partOfAnswer_1 (fun E ce q9 ws1 H locs k9 s9 hw ho9 hE hp h1 h2 h3 => ?_) (fun ws1 H locs s9 hw ho9 hp => ?_)
  · subst ho9; obtain rfl := Option.some.inj h; exact hout hw rfl hE (hR.trans hp) h1 h2 h3 (by decide) (by decide)
  subst ho9
  have h := ct_xc_inr h
  have hR := hR.trans hp
  clear hp
  generalize ws1 = ws at hw hR
  generalize s9 = s2 at hR h
  refine lv_iload_n hx hb d_CT_partOfAnswer_4 rfl (lv_at hl 1 rfl) ?_
  refine lv_if_eq hx hb (tgt := 21) d_CT_partOfAnswer_5 (by decide) (fun hc9 => ?_) (fun hc9 => ?_)
  · rw [if_pos hc9] at h
    refine lv_aload_n hx hb d_CT_partOfAnswer_21 rfl (lv_at hl 0 rfl) ?_
    refine gf_CT_19 C0 hw hR d_CT_partOfAnswer_22 ?_
    refine gf_CT_156 C0 hw hR d_CT_partOfAnswer_25 ?_
    refine gf_CT_208 (f := 8) (by decide) C0 hw hR d_CT_partOfAnswer_28 ?_
    obtain rfl := Option.some.inj h
    exact hret hw ⟨_, rfl, hR⟩ (by decide) (by decide) d_CT_partOfAnswer_31
  · rw [if_neg hc9] at h
    refine lv_aload_n hx hb d_CT_partOfAnswer_8 rfl (lv_at hl 0 rfl) ?_
    refine gf_CT_19 C0 hw hR d_CT_partOfAnswer_9 ?_
    refine gf_CT_156 C0 hw hR d_CT_partOfAnswer_12 ?_
    refine gf_CT_204 (f := 8) (by decide) C0 hw hR d_CT_partOfAnswer_15 ?_
    refine lv_goto hx hb (tgt := 31) d_CT_partOfAnswer_18 (by decide) ?_
    obtain rfl := Option.some.inj h
    exact hret hw ⟨_, rfl, hR⟩ (by decide) (by decide) d_CT_partOfAnswer_31

theorem d_CT_factor_0 : decode c_CT_factor 0 = .ok (.iload_n 1, 1) := by decide +kernel
theorem d_CT_factor_1 : decode c_CT_factor 1 = .ok (.invokestatic 128, 3) := by decide +kernel
theorem d_CT_factor_4 : decode c_CT_factor 4 = .ok (.ifCond .eq 24, 3) := by decide +kernel
theorem d_CT_factor_7 : decode c_CT_factor 7 = .ok (.iload_n 2, 1) := by decide +kernel
theorem d_CT_factor_8 : decode c_CT_factor 8 = .ok (.iconst 0, 1) := by decide +kernel
theorem d_CT_factor_9 : decode c_CT_factor 9 = .ok (.aload_n 0, 1) := by decide +kernel
theorem d_CT_factor_10 : decode c_CT_factor 10 = .ok (.getfield 27, 3) := by decide +kernel
theorem d_CT_factor_13 : decode c_CT_factor 13 = .ok (.invokevirtual 104, 3) := by decide +kernel
theorem d_CT_factor_16 : decode c_CT_factor 16 = .ok (.iconst 2, 1) := by decide +kernel
theorem d_CT_factor_17 : decode c_CT_factor 17 = .ok (.isub, 1) := by decide +kernel
theorem d_CT_factor_18 : decode c_CT_factor 18 = .ok (.invokestatic 33, 3) := by decide +kernel
theorem d_CT_factor_21 : decode c_CT_factor 21 = .ok (.ifCond .eq 7, 3) := by decide +kernel
theorem d_CT_factor_24 : decode c_CT_factor 24 = .ok (.iconst 1, 1) := by decide +kernel
theorem d_CT_factor_25 : decode c_CT_factor 25 = .ok (.goto 4, 3) := by decide +kernel
theorem d_CT_factor_28 : decode c_CT_factor 28 = .ok (.iconst 0, 1) := by decide +kernel
theorem d_CT_factor_29 : decode c_CT_factor 29 = .ok (.invokestatic 37, 3) := by decide +kernel
theorem d_CT_factor_32 : decode c_CT_factor 32 = .ok (.aload_n 0, 1) := by decide +kernel
theorem d_CT_factor_33 : decode c_CT_factor 33 = .ok (.getfield 19, 3) := by decide +kernel
theorem d_CT_factor_36 : decode c_CT_factor 36 = .ok (.iload_n 1, 1) := by decide +kernel
theorem d_CT_factor_37 : decode c_CT_factor 37 = .ok (.invokevirtual 131, 3) := by decide +kernel
theorem d_CT_factor_40 : decode c_CT_factor 40 = .ok (.aload_n 0, 1) := by decide +kernel
theorem d_CT_factor_41 : decode c_CT_factor 41 = .ok (.getfield 19, 3) := by decide +kernel
theorem d_CT_factor_44 : decode c_CT_factor 44 = .ok (.iload_n 2, 1) := by decide +kernel
theorem d_CT_factor_45 : decode c_CT_factor 45 = .ok (.invokevirtual 134, 3) := by decide +kernel
theorem d_CT_factor_48 : decode c_CT_factor 48 = .ok (.aload_n 0, 1) := by decide +kernel
theorem d_CT_factor_49 : decode c_CT_factor 49 = .ok (.iload_n 3, 1) := by decide +kernel
theorem d_CT_factor_50 : decode c_CT_factor 50 = .ok (.invokevirtual 137, 3) := by decide +kernel
theorem d_CT_factor_53 : decode c_CT_factor 53 = .ok (.lreturn, 1) := by decide +kernel
set_option maxHeartbeats 4000000 in
set_option maxRecDepth 100000 in
theorem s_CT_factor (l : Launch) (g : Gx) (ws0 : va_W) (sz : Nat) {s : CS} {a1 : Int32} {a2 : Int32} {a3 : Int32} {res : ((Nat × CS) ⊕ (Int64 × CS))} (hR : cs_Rel g ws0 ws0 s) (hl0 : l.stackTraces = false) (h : fn_CT_factor s a1 a2 a3 = some res) : ct_XL l y_CT_factor c_CT_factor 4 (some .long) rm_CT_factor g ws0 sz [.ref (g.2.1 0), .int a1, .int a2, .int a3] res 2 12 := by
  refine ct_startXl hl0 (by decide +kernel) rfl (Nat.le_of_ble_eq_true rfl) (fun p e sv m args below meth c ls Q A H locs C0 hret hout hthr hl hw => ?_)
  have hx := C0.1
  have hb := C0.2.1
  have hown := C0.2.2.2.1
  have hts := C0.2.2.2.2.1
  have hl : lv_has ls 4 [(0, .ref (g.2.1 0)), (1, .int a1), (2, .int a2), (3, .int a3)] := hl
  have J29 : ∀ (ws : va_W) (H : Heap) (locs : List Loc) (ls : Array Slot) (s : CS) (t0 : Int32), ct_Wd g A sv ws H locs → cs_Rel g ws0 ws s → lv_has ls 4 [(0, .ref (g.2.1 0)), (1, .int a1), (2, .int a2), (3, .int a3)] → bk_CT_factor_29 a1 a2 a3 s t0 = some res → W p l e rm_CT_factor sv m args below meth c H locs 0 0 Q (F0 m 29 ls [.int t0]) := by
    intro ws H locs ls s t0 hw hR hl h
    unfold bk_CT_factor_29 at h
    obtain ⟨o1, ho, h⟩ := ct_xb_some h
    refine ct_callSXv C0 hw hl.1 (ct_giS wd_209 wd_210 wd_1 wd_211) (fun sz => s_CT_check l g ws sz hR.rf hl0 ho) (nA := 1) (rm := rm_CT_check) (by decide +kernel) rfl ⟨rfl, rfl⟩ (by decide) (by decide) (As := [.int t0]) (rest := []) rfl (Nat.le_of_ble_eq_true rfl) d_CT_factor_29 (fun E ce q9 ws1 H locs k9 s9 hw ho9 hE hp h1 h2 h3 => ?_) (fun ws1 H locs s9 hw ho9 hp => ?_)
    · subst ho9; obtain rfl := Option.some.inj h; exact hout hw rfl hE (hR.trans hp) h1 h2 h3 (by decide) (by decide)
    subst ho9
    have h := ct_xc_inr h
    have hR := hR.trans hp
    clear hp
    generalize ws1 = ws at hw hR
    generalize s9 = s2 at hR h
    refine lv_aload_n hx hb d_CT_factor_32 rfl (lv_at hl 0 rfl) ?_
    refine gf_CT_19 C0 hw hR d_CT_factor_33 ?_
    refine lv_iload_n hx hb d_CT_factor_36 rfl (lv_at hl 1 rfl) ?_
    obtain ⟨s3, ho, h⟩ := ct_ob_some h
    refine ct_callVv C0 hw hl.1 (q0 := 4) (hR.1 4 (by decide)) rfl (ct_giV wd_467 wd_468 wd_469 wd_3 wd_470) (fun sz => s_Re_prepare l g ws sz hR.rf ho) (nA := 1) (rm := rm_Re_prepare) (by decide +kernel) rfl ⟨rfl, rfl⟩ (by decide) (by decide) (As := [.int a1]) (rest := []) rfl (Nat.le_of_ble_eq_true rfl) d_CT_factor_37 (fun ws1 H locs hw hp => ?_)
    have hR := hR.trans hp
    clear hp
    generalize ws1 = ws at hw hR
    refine lv_aload_n hx hb d_CT_factor_40 rfl (lv_at hl 0 rfl) ?_
    refine gf_CT_19 C0 hw hR d_CT_factor_41 ?_
    refine lv_iload_n hx hb d_CT_factor_44 rfl (lv_at hl 2 rfl) ?_
    obtain ⟨s4, ho, h⟩ := ct_ob_some h
    refine ct_callVv C0 hw hl.1 (q0 := 4) (hR.1 4 (by decide)) rfl (ct_giV wd_481 wd_482 wd_483 wd_3 wd_484) (fun sz => s_Re_toLink l g ws sz hR.rf ho) (nA := 1) (rm := rm_Re_toLink) (by decide +kernel) rfl ⟨rfl, rfl⟩ (by decide) (by decide) (As := [.int a2]) (rest := []) rfl (Nat.le_of_ble_eq_true rfl) d_CT_factor_45 (fun ws1 H locs hw hp => ?_)
    have hR := hR.trans hp
    clear hp
    generalize ws1 = ws at hw hR
    refine lv_aload_n hx hb d_CT_factor_48 rfl (lv_at hl 0 rfl) ?_
    refine lv_iload_n hx hb d_CT_factor_49 rfl (lv_at hl 3 rfl) ?_
    obtain ⟨o5, ho, h⟩ := ct_xb2_some h
    refine ct_callVXl C0 hw hl.1 (q0 := 0) (hR.1 0 (by decide)) rfl (ct_giV wd_489 wd_491 sel_CT_partOfAnswer wd_1 wd_492) (fun sz => s_CT_partOfAnswer l g ws sz hR.rf hl0 ho) (nA := 1) (rm := rm_CT_partOfAnswer) (by decide +kernel) rfl ⟨rfl, rfl⟩ (by decide) (by decide) (As := [.int a3]) (rest := []) rfl (Nat.le_of_ble_eq_true rfl) d_CT_factor_50 (fun E ce q9 ws1 H locs k9 s9 hw ho9 hE hp h1 h2 h3 => ?_) (fun r9 ws1 H locs s9 hw ho9 hp => ?_)
    · subst ho9; obtain rfl := Option.some.inj h; exact hout hw rfl hE (hR.trans hp) h1 h2 h3 (by decide) (by decide)
    subst ho9
    have h := ct_xc_inr h
    try dsimp only at h
    have hR := hR.trans hp
    clear hp
    generalize ws1 = ws at hw hR
    generalize s9 = s6 at hR h
    generalize r9 = x7 at h ⊢
    obtain rfl := Option.some.inj h
    exact hret hw ⟨_, rfl, hR⟩ (by decide) (by decide) d_CT_factor_53
  unfold fn_CT_factor at h
  obtain ⟨ws, hwe⟩ : ∃ z : va_W, z = ws0 := ⟨_, rfl⟩
  rw [← hwe] at hw
  have hR : cs_Rel g ws0 ws s := by rw [hwe]; exact hR
  clear hwe
  refine lv_iload_n hx hb d_CT_factor_0 rfl (lv_at hl 1 rfl) ?_
  obtain ⟨x8, ho, h⟩ := ct_ob_some h
  refine ct_callSi C0 hw hl.1 (ct_giS wd_464 wd_465 wd_1 wd_466) (fun sz => s_CT_isChain l g ws sz ho) (nA := 1) (rm := rm_CT_isChain) (by decide +kernel) rfl ⟨rfl, rfl⟩ (by decide) (by decide) (As := [.int a1]) (rest := []) rfl (Nat.le_of_ble_eq_true rfl) d_CT_factor_1 (fun ws1 H locs hw hp => ?_)
  rw [hp] at hw
  clear hp
  refine lv_if_eq hx hb (tgt := 28) d_CT_factor_4 (by decide) (fun hc9 => ?_) (fun hc9 => ?_)
  · rw [if_pos hc9] at h
    refine lv_iconst (v := 0) hx hb d_CT_factor_28 (by decide) ?_
    exact J29 ws H locs ls s 0 hw hR (lv_sub hl [0, 1, 2, 3] rfl) h
  · rw [if_neg hc9] at h
    refine lv_iload_n hx hb d_CT_factor_7 rfl (lv_at hl 2 rfl) ?_
    refine lv_iconst (v := 0) hx hb d_CT_factor_8 (by decide) ?_
    refine lv_aload_n hx hb d_CT_factor_9 rfl (lv_at hl 0 rfl) ?_
    refine gf_CT_27 C0 hw hR d_CT_factor_10 ?_
    obtain ⟨x9, ho, h⟩ := ct_ob_some h
    refine ct_callVi C0 hw hl.1 (q0 := 2) (hR.1 2 (by decide)) rfl (ct_giV wd_423 wd_424 wd_425 wd_4 wd_426) (fun sz => s_Tr_shown l g ws sz hR.rf ho) (nA := 0) (rm := rm_Tr_shown) (by decide +kernel) rfl ⟨rfl, rfl⟩ (by decide) (by decide) (As := []) (rest := [.int 0, .int a2]) rfl (Nat.le_of_ble_eq_true rfl) d_CT_factor_13 (fun ws1 H locs hw hp => ?_)
    rw [hp] at hw
    clear hp
    refine lv_iconst (v := 2) hx hb d_CT_factor_16 (by decide) ?_
    refine lv_isub hx hb d_CT_factor_17 ?_
    obtain ⟨x10, ho, h⟩ := ct_ob_some h
    refine ct_callSi C0 hw hl.1 (ct_giS wd_206 wd_207 wd_1 wd_208) (fun sz => s_CT_within l g ws sz ho) (nA := 3) (rm := rm_CT_within) (by decide +kernel) rfl ⟨rfl, rfl⟩ (by decide) (by decide) (As := [.int a2, .int 0, .int (x9 - 2)]) (rest := []) rfl (Nat.le_of_ble_eq_true rfl) d_CT_factor_18 (fun ws1 H locs hw hp => ?_)
    rw [hp] at hw
    clear hp
    refine lv_if_eq hx hb (tgt := 28) d_CT_factor_21 (by decide) (fun hc9 => ?_) (fun hc9 => ?_)
    · rw [if_pos hc9] at h
      refine lv_iconst (v := 0) hx hb d_CT_factor_28 (by decide) ?_
      exact J29 ws H locs ls s 0 hw hR (lv_sub hl [0, 1, 2, 3] rfl) h
    · rw [if_neg hc9] at h
      refine lv_iconst (v := 1) hx hb d_CT_factor_24 (by decide) ?_
      refine lv_goto hx hb (tgt := 29) d_CT_factor_25 (by decide) ?_
      exact J29 ws H locs ls s 1 hw hR (lv_sub hl [0, 1, 2, 3] rfl) h

theorem d_CT_isMethod_0 : decode c_CT_isMethod 0 = .ok (.iload_n 0, 1) := by decide +kernel
theorem d_CT_isMethod_1 : decode c_CT_isMethod 1 = .ok (.iconst 0, 1) := by decide +kernel
theorem d_CT_isMethod_2 : decode c_CT_isMethod 2 = .ok (.iconst 3, 1) := by decide +kernel
theorem d_CT_isMethod_3 : decode c_CT_isMethod 3 = .ok (.invokestatic 33, 3) := by decide +kernel
theorem d_CT_isMethod_6 : decode c_CT_isMethod 6 = .ok (.ireturn, 1) := by decide +kernel
set_option maxHeartbeats 4000000 in
set_option maxRecDepth 100000 in
theorem s_CT_isMethod (l : Launch) (g : Gx) (ws0 : va_W) (sz : Nat) {a1 : Int32} {res : Int32} (h : fn_CT_isMethod a1 = some res) : ct_MI l y_CT_isMethod c_CT_isMethod 1 (some .boolean) rm_CT_isMethod g ws0 sz [.int a1] res (fun u => u = ws0) := by
  refine ct_startz (by decide +kernel) (Nat.le_of_ble_eq_true rfl) (fun p e sv m args below meth c ls Q A H locs C0 hret hl hw => ?_)
  have hx := C0.1
  have hb := C0.2.1
  have hown := C0.2.2.2.1
  have hts := C0.2.2.2.2.1
  have hl : lv_has ls 1 [(0, .int a1)] := hl
  unfold fn_CT_isMethod at h
  refine lv_iload_n hx hb d_CT_isMethod_0 rfl (lv_at hl 0 rfl) ?_
  refine lv_iconst (v := 0) hx hb d_CT_isMethod_1 (by decide) ?_
  refine lv_iconst (v := 3) hx hb d_CT_isMethod_2 (by decide) ?_
  obtain ⟨x1, ho, h⟩ := ct_ob_some h
  refine ct_callSi C0 hw hl.1 (ct_giS wd_206 wd_207 wd_1 wd_208) (fun sz => s_CT_within l g ws0 sz ho) (nA := 3) (rm := rm_CT_within) (by decide +kernel) rfl ⟨rfl, rfl⟩ (by decide) (by decide) (As := [.int a1, .int 0, .int 3]) (rest := []) rfl (Nat.le_of_ble_eq_true rfl) d_CT_isMethod_3 (fun ws1 H locs hw hp => ?_)
  rw [hp] at hw
  clear hp
  obtain ⟨hz, h⟩ := ct_gd_some h
  obtain rfl := Option.some.inj h
  exact hret hz hw rfl d_CT_isMethod_6

theorem d_CT_isRow_0 : decode c_CT_isRow 0 = .ok (.iload_n 1, 1) := by decide +kernel
theorem d_CT_isRow_1 : decode c_CT_isRow 1 = .ok (.iconst 0, 1) := by decide +kernel
theorem d_CT_isRow_2 : decode c_CT_isRow 2 = .ok (.aload_n 0, 1) := by decide +kernel
theorem d_CT_isRow_3 : decode c_CT_isRow 3 = .ok (.getfield 27, 3) := by decide +kernel
theorem d_CT_isRow_6 : decode c_CT_isRow 6 = .ok (.invokevirtual 104, 3) := by decide +kernel
theorem d_CT_isRow_9 : decode c_CT_isRow 9 = .ok (.iconst 1, 1) := by decide +kernel
theorem d_CT_isRow_10 : decode c_CT_isRow 10 = .ok (.isub, 1) := by decide +kernel
theorem d_CT_isRow_11 : decode c_CT_isRow 11 = .ok (.invokestatic 33, 3) := by decide +kernel
theorem d_CT_isRow_14 : decode c_CT_isRow 14 = .ok (.ireturn, 1) := by decide +kernel
set_option maxHeartbeats 4000000 in
set_option maxRecDepth 100000 in
theorem s_CT_isRow (l : Launch) (g : Gx) (ws0 : va_W) (sz : Nat) {s : CS} {a1 : Int32} {res : Int32} (hR : cs_Rel g ws0 ws0 s) (h : fn_CT_isRow s a1 = some res) : ct_MI l y_CT_isRow c_CT_isRow 2 (some .boolean) rm_CT_isRow g ws0 sz [.ref (g.2.1 0), .int a1] res (fun u => u = ws0) := by
  refine ct_startz (by decide +kernel) (Nat.le_of_ble_eq_true rfl) (fun p e sv m args below meth c ls Q A H locs C0 hret hl hw => ?_)
  have hx := C0.1
  have hb := C0.2.1
  have hown := C0.2.2.2.1
  have hts := C0.2.2.2.2.1
  have hl : lv_has ls 2 [(0, .ref (g.2.1 0)), (1, .int a1)] := hl
  unfold fn_CT_isRow at h
  refine lv_iload_n hx hb d_CT_isRow_0 rfl (lv_at hl 1 rfl) ?_
  refine lv_iconst (v := 0) hx hb d_CT_isRow_1 (by decide) ?_
  refine lv_aload_n hx hb d_CT_isRow_2 rfl (lv_at hl 0 rfl) ?_
  refine gf_CT_27 C0 hw hR d_CT_isRow_3 ?_
  obtain ⟨x1, ho, h⟩ := ct_ob_some h
  refine ct_callVi C0 hw hl.1 (q0 := 2) (hR.1 2 (by decide)) rfl (ct_giV wd_423 wd_424 wd_425 wd_4 wd_426) (fun sz => s_Tr_shown l g ws0 sz hR.rf ho) (nA := 0) (rm := rm_Tr_shown) (by decide +kernel) rfl ⟨rfl, rfl⟩ (by decide) (by decide) (As := []) (rest := [.int 0, .int a1]) rfl (Nat.le_of_ble_eq_true rfl) d_CT_isRow_6 (fun ws1 H locs hw hp => ?_)
  rw [hp] at hw
  clear hp
  refine lv_iconst (v := 1) hx hb d_CT_isRow_9 (by decide) ?_
  refine lv_isub hx hb d_CT_isRow_10 ?_
  obtain ⟨x2, ho, h⟩ := ct_ob_some h
  refine ct_callSi C0 hw hl.1 (ct_giS wd_206 wd_207 wd_1 wd_208) (fun sz => s_CT_within l g ws0 sz ho) (nA := 3) (rm := rm_CT_within) (by decide +kernel) rfl ⟨rfl, rfl⟩ (by decide) (by decide) (As := [.int a1, .int 0, .int (x1 - 1)]) (rest := []) rfl (Nat.le_of_ble_eq_true rfl) d_CT_isRow_11 (fun ws1 H locs hw hp => ?_)
  rw [hp] at hw
  clear hp
  obtain ⟨hz, h⟩ := ct_gd_some h
  obtain rfl := Option.some.inj h
  exact hret hz hw rfl d_CT_isRow_14

theorem d_Te_sumPremiums_0 : decode c_Te_sumPremiums 0 = .ok (.iload_n 3, 1) := by decide +kernel
theorem d_Te_sumPremiums_1 : decode c_Te_sumPremiums 1 = .ok (.iload_n 2, 1) := by decide +kernel
theorem d_Te_sumPremiums_2 : decode c_Te_sumPremiums 2 = .ok (.imul, 1) := by decide +kernel
theorem d_Te_sumPremiums_3 : decode c_Te_sumPremiums 3 = .ok (.istore 4, 2) := by decide +kernel
theorem d_Te_sumPremiums_5 : decode c_Te_sumPremiums 5 = .ok (.iconst 0, 1) := by decide +kernel
theorem d_Te_sumPremiums_6 : decode c_Te_sumPremiums 6 = .ok (.istore 5, 2) := by decide +kernel
theorem d_Te_sumPremiums_8 : decode c_Te_sumPremiums 8 = .ok (.iload 4, 2) := by decide +kernel
theorem d_Te_sumPremiums_10 : decode c_Te_sumPremiums 10 = .ok (.istore 6, 2) := by decide +kernel
theorem d_Te_sumPremiums_12 : decode c_Te_sumPremiums 12 = .ok (.iload 6, 2) := by decide +kernel
theorem d_Te_sumPremiums_14 : decode c_Te_sumPremiums 14 = .ok (.iload 4, 2) := by decide +kernel
theorem d_Te_sumPremiums_16 : decode c_Te_sumPremiums 16 = .ok (.iload_n 2, 1) := by decide +kernel
theorem d_Te_sumPremiums_17 : decode c_Te_sumPremiums 17 = .ok (.iadd, 1) := by decide +kernel
theorem d_Te_sumPremiums_18 : decode c_Te_sumPremiums 18 = .ok (.if_icmp .ge 30, 3) := by decide +kernel
theorem d_Te_sumPremiums_21 : decode c_Te_sumPremiums 21 = .ok (.iload 6, 2) := by decide +kernel
theorem d_Te_sumPremiums_23 : decode c_Te_sumPremiums 23 = .ok (.bipush 72, 2) := by decide +kernel
theorem d_Te_sumPremiums_25 : decode c_Te_sumPremiums 25 = .ok (.if_icmp .ge 23, 3) := by decide +kernel
theorem d_Te_sumPremiums_28 : decode c_Te_sumPremiums 28 = .ok (.iload 5, 2) := by decide +kernel
theorem d_Te_sumPremiums_30 : decode c_Te_sumPremiums 30 = .ok (.aload_n 0, 1) := by decide +kernel
theorem d_Te_sumPremiums_31 : decode c_Te_sumPremiums 31 = .ok (.getfield 11, 3) := by decide +kernel
theorem d_Te_sumPremiums_34 : decode c_Te_sumPremiums 34 = .ok (.iload_n 1, 1) := by decide +kernel
theorem d_Te_sumPremiums_35 : decode c_Te_sumPremiums 35 = .ok (.aaload, 1) := by decide +kernel
theorem d_Te_sumPremiums_36 : decode c_Te_sumPremiums 36 = .ok (.iload 6, 2) := by decide +kernel
theorem d_Te_sumPremiums_38 : decode c_Te_sumPremiums 38 = .ok (.iaload, 1) := by decide +kernel
theorem d_Te_sumPremiums_39 : decode c_Te_sumPremiums 39 = .ok (.iadd, 1) := by decide +kernel
theorem d_Te_sumPremiums_40 : decode c_Te_sumPremiums 40 = .ok (.istore 5, 2) := by decide +kernel
theorem d_Te_sumPremiums_42 : decode c_Te_sumPremiums 42 = .ok (.iinc 6 1, 3) := by decide +kernel
theorem d_Te_sumPremiums_45 : decode c_Te_sumPremiums 45 = .ok (.goto (-33), 3) := by decide +kernel
theorem d_Te_sumPremiums_48 : decode c_Te_sumPremiums 48 = .ok (.iload 5, 2) := by decide +kernel
theorem d_Te_sumPremiums_50 : decode c_Te_sumPremiums 50 = .ok (.ireturn, 1) := by decide +kernel
set_option maxHeartbeats 4000000 in
set_option maxRecDepth 100000 in
theorem s_Te_sumPremiums (l : Launch) (g : Gx) (ws0 : va_W) (sz : Nat) {s : CS} {a1 : Int32} {a2 : Int32} {a3 : Int32} {res : Int32} (hR : cs_Rel g ws0 ws0 s) (h : fn_Te_sumPremiums s a1 a2 a3 = some res) : ct_MI l y_Te_sumPremiums c_Te_sumPremiums 7 (some .int) rm_Te_sumPremiums g ws0 sz [.ref (g.2.1 3), .int a1, .int a2, .int a3] res (fun u => u = ws0) := by
  refine ct_starti (by decide +kernel) (Nat.le_of_ble_eq_true rfl) (fun p e sv m args below meth c ls Q A H locs C0 hret hl hw => ?_)
  have hx := C0.1
  have hb := C0.2.1
  have hown := C0.2.2.2.1
  have hts := C0.2.2.2.2.1
  have hl : lv_has ls 7 [(0, .ref (g.2.1 3)), (1, .int a1), (2, .int a2), (3, .int a3)] := hl
  have L12 : ∀ (n12 : Nat) (H : Heap) (locs : List Loc) (ls : Array Slot) (s : CS) (v4 : Int32) (v5 : Int32) (v6 : Int32), ct_Wd g A sv ws0 H locs → cs_Rel g ws0 ws0 s → lv_has ls 7 [(0, .ref (g.2.1 3)), (1, .int a1), (2, .int a2), (4, .int v4), (5, .int v5), (6, .int v6)] → bk_Te_sumPremiums_12 a1 a2 a3 n12 s v4 v5 v6 = some res → W p l e rm_Te_sumPremiums sv m args below meth c H locs 0 0 Q (F0 m 12 ls []) := by
    intro n12
    induction n12 with
    | zero =>
      intro H locs ls s v4 v5 v6 hw hR hl h
      exact absurd h (by simp [bk_Te_sumPremiums_12])
    | succ n12 ih12 =>
      intro H locs ls s v4 v5 v6 hw hR hl h
      have h : bk_Te_sumPremiums_12_o a1 a2 a3 (bk_Te_sumPremiums_12 a1 a2 a3 n12) s v4 v5 v6 = some res := h
      unfold bk_Te_sumPremiums_12_o at h
      refine lv_iload hx hb d_Te_sumPremiums_12 (lv_at hl 5 rfl) ?_
      refine lv_iload hx hb d_Te_sumPremiums_14 (lv_at hl 3 rfl) ?_
      refine lv_iload_n hx hb d_Te_sumPremiums_16 rfl (lv_at hl 2 rfl) ?_
      refine lv_iadd hx hb d_Te_sumPremiums_17 ?_
      refine lv_icmp_ge hx hb (tgt := 48) d_Te_sumPremiums_18 (by decide) (fun hc9 => ?_) (fun hc9 => ?_)
      · rw [if_pos hc9] at h
        refine lv_iload hx hb d_Te_sumPremiums_48 (lv_at hl 4 rfl) ?_
        obtain rfl := Option.some.inj h
        exact hret hw rfl d_Te_sumPremiums_50
      · rw [if_neg hc9] at h
        refine lv_iload hx hb d_Te_sumPremiums_21 (lv_at hl 5 rfl) ?_
        refine lv_bipush (v := 72) hx hb d_Te_sumPremiums_23 (by decide) ?_
        refine lv_icmp_ge hx hb (tgt := 48) d_Te_sumPremiums_25 (by decide) (fun hc9 => ?_) (fun hc9 => ?_)
        · rw [if_pos hc9] at h
          refine lv_iload hx hb d_Te_sumPremiums_48 (lv_at hl 4 rfl) ?_
          obtain rfl := Option.some.inj h
          exact hret hw rfl d_Te_sumPremiums_50
        · rw [if_neg hc9] at h
          refine lv_iload hx hb d_Te_sumPremiums_28 (lv_at hl 4 rfl) ?_
          refine lv_aload_n hx hb d_Te_sumPremiums_30 rfl (lv_at hl 0 rfl) ?_
          refine gf_Te_11 C0 hw hR d_Te_sumPremiums_31 ?_
          refine lv_iload_n hx hb d_Te_sumPremiums_34 rfl (lv_at hl 1 rfl) ?_
          obtain ⟨hg35, h⟩ := ct_gd_some h
          refine ct_ldop C0 hw hR (ct_inR_vp hg35) d_Te_sumPremiums_35 ?_
          refine lv_iload hx hb d_Te_sumPremiums_36 (lv_at hl 5 rfl) ?_
          obtain ⟨hg38, h⟩ := ct_gd_some h
          refine ct_ldpm C0 hw hR (ct_inR_lt hg35) (ct_inR_vp hg38) d_Te_sumPremiums_38 ?_
          refine lv_iadd hx hb d_Te_sumPremiums_39 ?_
          refine lv_topi (fun x1 e9 => ?_)
          have h := ct_nm_at h e9
          clear e9
          refine lv_istore (lv' := [(5, .int x1), (0, .ref (g.2.1 3)), (1, .int a1), (2, .int a2), (4, .int v4), (6, .int v6)]) hx hb d_Te_sumPremiums_40 hl (by decide) rfl (fun ls hl => ?_)
          refine lv_iinc (v := v6 + 1) (k := 5) (lv' := [(6, .int (v6 + 1)), (5, .int x1), (0, .ref (g.2.1 3)), (1, .int a1), (2, .int a2), (4, .int v4)]) hx hb d_Te_sumPremiums_42 hl rfl rfl (by decide) rfl (fun ls hl => ?_)
          refine lv_goto hx hb (tgt := 12) d_Te_sumPremiums_45 (by decide) ?_
          exact ih12 H locs ls s v4 x1 (v6 + 1) hw hR (lv_sub hl [2, 3, 4, 5, 1, 0] rfl) h
  unfold fn_Te_sumPremiums at h
  refine lv_iload_n hx hb d_Te_sumPremiums_0 rfl (lv_at hl 3 rfl) ?_
  refine lv_iload_n hx hb d_Te_sumPremiums_1 rfl (lv_at hl 2 rfl) ?_
  refine lv_imul hx hb d_Te_sumPremiums_2 ?_
  refine lv_topi (fun x2 e9 => ?_)
  have h := ct_nm_at h e9
  clear e9
  refine lv_istore (lv' := [(4, .int x2), (0, .ref (g.2.1 3)), (1, .int a1), (2, .int a2), (3, .int a3)]) hx hb d_Te_sumPremiums_3 hl (by decide) rfl (fun ls hl => ?_)
  refine lv_iconst (v := 0) hx hb d_Te_sumPremiums_5 (by decide) ?_
  refine lv_istore (lv' := [(5, .int 0), (4, .int x2), (0, .ref (g.2.1 3)), (1, .int a1), (2, .int a2), (3, .int a3)]) hx hb d_Te_sumPremiums_6 hl (by decide) rfl (fun ls hl => ?_)
  refine lv_iload hx hb d_Te_sumPremiums_8 (lv_at hl 1 rfl) ?_
  refine lv_istore (lv' := [(6, .int x2), (5, .int 0), (4, .int x2), (0, .ref (g.2.1 3)), (1, .int a1), (2, .int a2), (3, .int a3)]) hx hb d_Te_sumPremiums_10 hl (by decide) rfl (fun ls hl => ?_)
  exact L12 200 H locs ls s x2 0 x2 hw hR (lv_sub hl [3, 4, 5, 2, 1, 0] rfl) h

