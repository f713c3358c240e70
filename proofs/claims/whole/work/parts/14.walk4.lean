theorem d_CT_ultimate_0 : decode c_CT_ultimate 0 = .ok (.iload_n 1, 1) := by decide +kernel
theorem d_CT_ultimate_1 : decode c_CT_ultimate 1 = .ok (.invokestatic 141, 3) := by decide +kernel
theorem d_CT_ultimate_4 : decode c_CT_ultimate 4 = .ok (.ifCond .eq 15, 3) := by decide +kernel
theorem d_CT_ultimate_7 : decode c_CT_ultimate 7 = .ok (.aload_n 0, 1) := by decide +kernel
theorem d_CT_ultimate_8 : decode c_CT_ultimate 8 = .ok (.iload_n 2, 1) := by decide +kernel
theorem d_CT_ultimate_9 : decode c_CT_ultimate 9 = .ok (.invokevirtual 144, 3) := by decide +kernel
theorem d_CT_ultimate_12 : decode c_CT_ultimate 12 = .ok (.ifCond .eq 7, 3) := by decide +kernel
theorem d_CT_ultimate_15 : decode c_CT_ultimate 15 = .ok (.iconst 1, 1) := by decide +kernel
theorem d_CT_ultimate_16 : decode c_CT_ultimate 16 = .ok (.goto 4, 3) := by decide +kernel
theorem d_CT_ultimate_19 : decode c_CT_ultimate 19 = .ok (.iconst 0, 1) := by decide +kernel
theorem d_CT_ultimate_20 : decode c_CT_ultimate 20 = .ok (.invokestatic 37, 3) := by decide +kernel
theorem d_CT_ultimate_23 : decode c_CT_ultimate 23 = .ok (.aload_n 0, 1) := by decide +kernel
theorem d_CT_ultimate_24 : decode c_CT_ultimate 24 = .ok (.getfield 19, 3) := by decide +kernel
theorem d_CT_ultimate_27 : decode c_CT_ultimate 27 = .ok (.iload_n 1, 1) := by decide +kernel
theorem d_CT_ultimate_28 : decode c_CT_ultimate 28 = .ok (.invokevirtual 131, 3) := by decide +kernel
theorem d_CT_ultimate_31 : decode c_CT_ultimate 31 = .ok (.aload_n 0, 1) := by decide +kernel
theorem d_CT_ultimate_32 : decode c_CT_ultimate 32 = .ok (.getfield 19, 3) := by decide +kernel
theorem d_CT_ultimate_35 : decode c_CT_ultimate 35 = .ok (.iload_n 1, 1) := by decide +kernel
theorem d_CT_ultimate_36 : decode c_CT_ultimate 36 = .ok (.iload_n 2, 1) := by decide +kernel
theorem d_CT_ultimate_37 : decode c_CT_ultimate 37 = .ok (.invokevirtual 147, 3) := by decide +kernel
theorem d_CT_ultimate_40 : decode c_CT_ultimate 40 = .ok (.aload_n 0, 1) := by decide +kernel
theorem d_CT_ultimate_41 : decode c_CT_ultimate 41 = .ok (.iload_n 3, 1) := by decide +kernel
theorem d_CT_ultimate_42 : decode c_CT_ultimate 42 = .ok (.invokevirtual 137, 3) := by decide +kernel
theorem d_CT_ultimate_45 : decode c_CT_ultimate 45 = .ok (.lreturn, 1) := by decide +kernel
set_option maxHeartbeats 4000000 in
set_option maxRecDepth 100000 in
theorem s_CT_ultimate (l : Launch) (g : Gx) (ws0 : va_W) (sz : Nat) {s : CS} {a1 : Int32} {a2 : Int32} {a3 : Int32} {res : ((Nat × CS) ⊕ (Int64 × CS))} (hR : cs_Rel g ws0 ws0 s) (hl0 : l.stackTraces = false) (h : fn_CT_ultimate s a1 a2 a3 = some res) : ct_XL l y_CT_ultimate c_CT_ultimate 4 (some .long) rm_CT_ultimate g ws0 sz [.ref (g.2.1 0), .int a1, .int a2, .int a3] res 2 12 := by
  refine ct_startXl hl0 (by decide +kernel) rfl (Nat.le_of_ble_eq_true rfl) (fun p e sv m args below meth c ls Q A H locs C0 hret hout hthr hl hw => ?_)
  have hx := C0.1
  have hb := C0.2.1
  have hown := C0.2.2.2.1
  have hts := C0.2.2.2.2.1
  have hl : lv_has ls 4 [(0, .ref (g.2.1 0)), (1, .int a1), (2, .int a2), (3, .int a3)] := hl
  have J20 : ∀ (ws : va_W) (H : Heap) (locs : List Loc) (ls : Array Slot) (s : CS) (t0 : Int32), ct_Wd g A sv ws H locs → cs_Rel g ws0 ws s → lv_has ls 4 [(0, .ref (g.2.1 0)), (1, .int a1), (2, .int a2), (3, .int a3)] → bk_CT_ultimate_20 a1 a2 a3 s t0 = some res → W p l e rm_CT_ultimate sv m args below meth c H locs 0 0 Q (F0 m 20 ls [.int t0]) := by
    intro ws H locs ls s t0 hw hR hl h
    unfold bk_CT_ultimate_20 at h
    obtain ⟨o1, ho, h⟩ := ct_xb_some h
    refine ct_callSXv C0 hw hl.1 (ct_giS wd_209 wd_210 wd_1 wd_211) (fun sz => s_CT_check l g ws sz hR.rf hl0 ho) (nA := 1) (rm := rm_CT_check) (by decide +kernel) rfl ⟨rfl, rfl⟩ (by decide) (by decide) (As := [.int t0]) (rest := []) rfl (Nat.le_of_ble_eq_true rfl) d_CT_ultimate_20 (fun E ce q9 ws1 H locs k9 s9 hw ho9 hE hp h1 h2 h3 => ?_) (fun ws1 H locs s9 hw ho9 hp => ?_)
    · subst ho9; obtain rfl := Option.some.inj h; exact hout hw rfl hE (hR.trans hp) h1 h2 h3 (by decide) (by decide)
    subst ho9
    have h := ct_xc_inr h
    have hR := hR.trans hp
    clear hp
    generalize ws1 = ws at hw hR
    generalize s9 = s2 at hR h
    refine lv_aload_n hx hb d_CT_ultimate_23 rfl (lv_at hl 0 rfl) ?_
    refine gf_CT_19 C0 hw hR d_CT_ultimate_24 ?_
    refine lv_iload_n hx hb d_CT_ultimate_27 rfl (lv_at hl 1 rfl) ?_
    obtain ⟨s3, ho, h⟩ := ct_ob_some h
    refine ct_callVv C0 hw hl.1 (q0 := 4) (hR.1 4 (by decide)) rfl (ct_giV wd_467 wd_468 wd_469 wd_3 wd_470) (fun sz => s_Re_prepare l g ws sz hR.rf ho) (nA := 1) (rm := rm_Re_prepare) (by decide +kernel) rfl ⟨rfl, rfl⟩ (by decide) (by decide) (As := [.int a1]) (rest := []) rfl (Nat.le_of_ble_eq_true rfl) d_CT_ultimate_28 (fun ws1 H locs hw hp => ?_)
    have hR := hR.trans hp
    clear hp
    generalize ws1 = ws at hw hR
    refine lv_aload_n hx hb d_CT_ultimate_31 rfl (lv_at hl 0 rfl) ?_
    refine gf_CT_19 C0 hw hR d_CT_ultimate_32 ?_
    refine lv_iload_n hx hb d_CT_ultimate_35 rfl (lv_at hl 1 rfl) ?_
    refine lv_iload_n hx hb d_CT_ultimate_36 rfl (lv_at hl 2 rfl) ?_
    obtain ⟨s4, ho, h⟩ := ct_ob_some h
    refine ct_callVv C0 hw hl.1 (q0 := 4) (hR.1 4 (by decide)) rfl (ct_giV wd_543 wd_544 wd_545 wd_3 wd_546) (fun sz => s_Re_toUltimate l g ws sz hR.rf ho) (nA := 2) (rm := rm_Re_toUltimate) (by decide +kernel) rfl ⟨rfl, rfl⟩ (by decide) (by decide) (As := [.int a1, .int a2]) (rest := []) rfl (Nat.le_of_ble_eq_true rfl) d_CT_ultimate_37 (fun ws1 H locs hw hp => ?_)
    have hR := hR.trans hp
    clear hp
    generalize ws1 = ws at hw hR
    refine lv_aload_n hx hb d_CT_ultimate_40 rfl (lv_at hl 0 rfl) ?_
    refine lv_iload_n hx hb d_CT_ultimate_41 rfl (lv_at hl 3 rfl) ?_
    obtain ⟨o5, ho, h⟩ := ct_xb2_some h
    refine ct_callVXl C0 hw hl.1 (q0 := 0) (hR.1 0 (by decide)) rfl (ct_giV wd_489 wd_491 sel_CT_partOfAnswer wd_1 wd_492) (fun sz => s_CT_partOfAnswer l g ws sz hR.rf hl0 ho) (nA := 1) (rm := rm_CT_partOfAnswer) (by decide +kernel) rfl ⟨rfl, rfl⟩ (by decide) (by decide) (As := [.int a3]) (rest := []) rfl (Nat.le_of_ble_eq_true rfl) d_CT_ultimate_42 (fun E ce q9 ws1 H locs k9 s9 hw ho9 hE hp h1 h2 h3 => ?_) (fun r9 ws1 H locs s9 hw ho9 hp => ?_)
    · subst ho9; obtain rfl := Option.some.inj h; exact hout hw rfl hE (hR.trans hp) h1 h2 h3 (by decide) (by decide)
    subst ho9
    have h := ct_xc_inr h
    try dsimp only at h
    have hR := hR.trans hp
    clear hp
    generalize ws1 = ws at hw hR
    generalize s9 = s6 at hR h
    generalize r9 = x7 at h ⊢
    obtain rfl := Option.some.inj h
    exact hret hw ⟨_, rfl, hR⟩ (by decide) (by decide) d_CT_ultimate_45
  unfold fn_CT_ultimate at h
  obtain ⟨ws, hwe⟩ : ∃ z : va_W, z = ws0 := ⟨_, rfl⟩
  rw [← hwe] at hw
  have hR : cs_Rel g ws0 ws s := by rw [hwe]; exact hR
  clear hwe
  refine lv_iload_n hx hb d_CT_ultimate_0 rfl (lv_at hl 1 rfl) ?_
  obtain ⟨x8, ho, h⟩ := ct_ob_some h
  refine ct_callSi C0 hw hl.1 (ct_giS wd_536 wd_537 wd_1 wd_538) (fun sz => s_CT_isMethod l g ws sz ho) (nA := 1) (rm := rm_CT_isMethod) (by decide +kernel) rfl ⟨rfl, rfl⟩ (by decide) (by decide) (As := [.int a1]) (rest := []) rfl (Nat.le_of_ble_eq_true rfl) d_CT_ultimate_1 (fun ws1 H locs hw hp => ?_)
  rw [hp] at hw
  clear hp
  refine lv_if_eq hx hb (tgt := 19) d_CT_ultimate_4 (by decide) (fun hc9 => ?_) (fun hc9 => ?_)
  · rw [if_pos hc9] at h
    refine lv_iconst (v := 0) hx hb d_CT_ultimate_19 (by decide) ?_
    exact J20 ws H locs ls s 0 hw hR (lv_sub hl [0, 1, 2, 3] rfl) h
  · rw [if_neg hc9] at h
    refine lv_aload_n hx hb d_CT_ultimate_7 rfl (lv_at hl 0 rfl) ?_
    refine lv_iload_n hx hb d_CT_ultimate_8 rfl (lv_at hl 2 rfl) ?_
    obtain ⟨x9, ho, h⟩ := ct_ob_some h
    refine ct_callVi C0 hw hl.1 (q0 := 0) (hR.1 0 (by decide)) rfl (ct_giV wd_539 wd_541 sel_CT_isRow wd_1 wd_542) (fun sz => s_CT_isRow l g ws sz hR.rf ho) (nA := 1) (rm := rm_CT_isRow) (by decide +kernel) rfl ⟨rfl, rfl⟩ (by decide) (by decide) (As := [.int a2]) (rest := []) rfl (Nat.le_of_ble_eq_true rfl) d_CT_ultimate_9 (fun ws1 H locs hw hp => ?_)
    rw [hp] at hw
    clear hp
    refine lv_if_eq hx hb (tgt := 19) d_CT_ultimate_12 (by decide) (fun hc9 => ?_) (fun hc9 => ?_)
    · rw [if_pos hc9] at h
      refine lv_iconst (v := 0) hx hb d_CT_ultimate_19 (by decide) ?_
      exact J20 ws H locs ls s 0 hw hR (lv_sub hl [0, 1, 2, 3] rfl) h
    · rw [if_neg hc9] at h
      refine lv_iconst (v := 1) hx hb d_CT_ultimate_15 (by decide) ?_
      refine lv_goto hx hb (tgt := 20) d_CT_ultimate_16 (by decide) ?_
      exact J20 ws H locs ls s 1 hw hR (lv_sub hl [0, 1, 2, 3] rfl) h

theorem d_Re_toReserve_0 : decode c_Re_toReserve 0 = .ok (.aload_n 0, 1) := by decide +kernel
theorem d_Re_toReserve_1 : decode c_Re_toReserve 1 = .ok (.iload_n 1, 1) := by decide +kernel
theorem d_Re_toReserve_2 : decode c_Re_toReserve 2 = .ok (.iload_n 2, 1) := by decide +kernel
theorem d_Re_toReserve_3 : decode c_Re_toReserve 3 = .ok (.invokevirtual 99, 3) := by decide +kernel
theorem d_Re_toReserve_6 : decode c_Re_toReserve 6 = .ok (.aload_n 0, 1) := by decide +kernel
theorem d_Re_toReserve_7 : decode c_Re_toReserve 7 = .ok (.getfield 34, 3) := by decide +kernel
theorem d_Re_toReserve_10 : decode c_Re_toReserve 10 = .ok (.aload_n 0, 1) := by decide +kernel
theorem d_Re_toReserve_11 : decode c_Re_toReserve 11 = .ok (.aload_n 0, 1) := by decide +kernel
theorem d_Re_toReserve_12 : decode c_Re_toReserve 12 = .ok (.getfield 12, 3) := by decide +kernel
theorem d_Re_toReserve_15 : decode c_Re_toReserve 15 = .ok (.iload_n 2, 1) := by decide +kernel
theorem d_Re_toReserve_16 : decode c_Re_toReserve 16 = .ok (.invokevirtual 91, 3) := by decide +kernel
theorem d_Re_toReserve_19 : decode c_Re_toReserve 19 = .ok (.ineg, 1) := by decide +kernel
theorem d_Re_toReserve_20 : decode c_Re_toReserve 20 = .ok (.i2l, 1) := by decide +kernel
theorem d_Re_toReserve_21 : decode c_Re_toReserve 21 = .ok (.invokevirtual 95, 3) := by decide +kernel
theorem d_Re_toReserve_24 : decode c_Re_toReserve 24 = .ok (.invokevirtual 102, 3) := by decide +kernel
theorem d_Re_toReserve_27 : decode c_Re_toReserve 27 = .ok (.return_, 1) := by decide +kernel
set_option maxHeartbeats 4000000 in
set_option maxRecDepth 100000 in
theorem s_Re_toReserve (l : Launch) (g : Gx) (ws0 : va_W) (sz : Nat) {s : CS} {a1 : Int32} {a2 : Int32} {res : CS} (hR : cs_Rel g ws0 ws0 s) (h : fn_Re_toReserve s a1 a2 = some res) : ct_MV l y_Re_toReserve c_Re_toReserve 3 none rm_Re_toReserve g ws0 sz [.ref (g.2.1 4), .int a1, .int a2]  (fun u => cs_Rel g ws0 u res) := by
  refine ct_startv (by decide +kernel) (Nat.le_of_ble_eq_true rfl) (fun p e sv m args below meth c ls Q A H locs C0 hret hl hw => ?_)
  have hx := C0.1
  have hb := C0.2.1
  have hown := C0.2.2.2.1
  have hts := C0.2.2.2.2.1
  have hl : lv_has ls 3 [(0, .ref (g.2.1 4)), (1, .int a1), (2, .int a2)] := hl
  unfold fn_Re_toReserve at h
  obtain ⟨ws, hwe⟩ : ∃ z : va_W, z = ws0 := ⟨_, rfl⟩
  rw [← hwe] at hw
  have hR : cs_Rel g ws0 ws s := by rw [hwe]; exact hR
  clear hwe
  refine lv_aload_n hx hb d_Re_toReserve_0 rfl (lv_at hl 0 rfl) ?_
  refine lv_iload_n hx hb d_Re_toReserve_1 rfl (lv_at hl 1 rfl) ?_
  refine lv_iload_n hx hb d_Re_toReserve_2 rfl (lv_at hl 2 rfl) ?_
  obtain ⟨s1, ho, h⟩ := ct_ob_some h
  refine ct_callVv C0 hw hl.1 (q0 := 4) (hR.1 4 (by decide)) rfl (ct_giV wd_612 wd_544 wd_545 wd_3 wd_546) (fun sz => s_Re_toUltimate l g ws sz hR.rf ho) (nA := 2) (rm := rm_Re_toUltimate) (by decide +kernel) rfl ⟨rfl, rfl⟩ (by decide) (by decide) (As := [.int a1, .int a2]) (rest := []) rfl (Nat.le_of_ble_eq_true rfl) d_Re_toReserve_3 (fun ws1 H locs hw hp => ?_)
  have hR := hR.trans hp
  clear hp
  generalize ws1 = ws at hw hR
  refine lv_aload_n hx hb d_Re_toReserve_6 rfl (lv_at hl 0 rfl) ?_
  refine gf_Re_34 C0 hw hR d_Re_toReserve_7 ?_
  refine lv_aload_n hx hb d_Re_toReserve_10 rfl (lv_at hl 0 rfl) ?_
  refine lv_aload_n hx hb d_Re_toReserve_11 rfl (lv_at hl 0 rfl) ?_
  refine gf_Re_12 C0 hw hR d_Re_toReserve_12 ?_
  refine lv_iload_n hx hb d_Re_toReserve_15 rfl (lv_at hl 2 rfl) ?_
  obtain ⟨x2, ho, h⟩ := ct_ob_some h
  refine ct_callVi C0 hw hl.1 (q0 := 2) (hR.1 2 (by decide)) rfl (ct_giV wd_596 wd_597 wd_598 wd_4 wd_599) (fun sz => s_Tr_latestOf l g ws sz hR.rf ho) (nA := 1) (rm := rm_Tr_latestOf) (by decide +kernel) rfl ⟨rfl, rfl⟩ (by decide) (by decide) (As := [.int a2]) (rest := [.ref (g.2.1 4), .ref (g.2.1 31)]) rfl (Nat.le_of_ble_eq_true rfl) d_Re_toReserve_16 (fun ws1 H locs hw hp => ?_)
  rw [hp] at hw
  clear hp
  refine lv_ineg hx hb d_Re_toReserve_19 ?_
  refine lv_i2l hx hb d_Re_toReserve_20 rfl ?_
  obtain ⟨x3, s4, ho, h⟩ := ct_ob2_some h
  refine ct_callVr C0 hw hl.1 (q0 := 4) (hR.1 4 (by decide)) rfl (ct_giV wd_587 wd_589 sel_Re_asWhole wd_3 wd_590) (fun sz => s_Re_asWhole l g ws sz hR.rf ho) (nA := 1) (rm := rm_Re_asWhole) (by decide +kernel) rfl ⟨rfl, rfl⟩ (by decide) (by decide) (As := [.long ((-x2).toInt64)]) (rest := [.ref (g.2.1 31)]) rfl (Nat.le_of_ble_eq_true rfl) d_Re_toReserve_21 (fun ws1 H locs hw hp => ?_)
  have hR := hR.trans hp
  clear hp
  generalize ws1 = ws at hw hR
  have hx3 : x3 < 12 := lt_Re_asWhole ho
  obtain ⟨s5, ho, h⟩ := ct_ob_some h
  refine ct_callVv C0 hw hl.1 (hR.F (f := 8) (by decide)) rfl (ct_giV wd_591 wd_592 wd_593 wd_6 wd_594) (fun sz => s_Fr_plus l g ws sz hR.rf (by decide) hx3 ho) (nA := 1) (rm := rm_Fr_plus) (by decide +kernel) rfl ⟨rfl, rfl⟩ (by decide) (by decide) (As := [.ref (g.2.1 (23 + x3))]) (rest := []) rfl (Nat.le_of_ble_eq_true rfl) d_Re_toReserve_24 (fun ws1 H locs hw hp => ?_)
  have hR := hR.trans hp
  clear hp
  generalize ws1 = ws at hw hR
  obtain rfl := Option.some.inj h
  exact hret hw hR d_Re_toReserve_27

theorem d_CT_reserve_0 : decode c_CT_reserve 0 = .ok (.iload_n 1, 1) := by decide +kernel
theorem d_CT_reserve_1 : decode c_CT_reserve 1 = .ok (.invokestatic 141, 3) := by decide +kernel
theorem d_CT_reserve_4 : decode c_CT_reserve 4 = .ok (.ifCond .eq 15, 3) := by decide +kernel
theorem d_CT_reserve_7 : decode c_CT_reserve 7 = .ok (.aload_n 0, 1) := by decide +kernel
theorem d_CT_reserve_8 : decode c_CT_reserve 8 = .ok (.iload_n 2, 1) := by decide +kernel
theorem d_CT_reserve_9 : decode c_CT_reserve 9 = .ok (.invokevirtual 144, 3) := by decide +kernel
theorem d_CT_reserve_12 : decode c_CT_reserve 12 = .ok (.ifCond .eq 7, 3) := by decide +kernel
theorem d_CT_reserve_15 : decode c_CT_reserve 15 = .ok (.iconst 1, 1) := by decide +kernel
theorem d_CT_reserve_16 : decode c_CT_reserve 16 = .ok (.goto 4, 3) := by decide +kernel
theorem d_CT_reserve_19 : decode c_CT_reserve 19 = .ok (.iconst 0, 1) := by decide +kernel
theorem d_CT_reserve_20 : decode c_CT_reserve 20 = .ok (.invokestatic 37, 3) := by decide +kernel
theorem d_CT_reserve_23 : decode c_CT_reserve 23 = .ok (.aload_n 0, 1) := by decide +kernel
theorem d_CT_reserve_24 : decode c_CT_reserve 24 = .ok (.getfield 19, 3) := by decide +kernel
theorem d_CT_reserve_27 : decode c_CT_reserve 27 = .ok (.iload_n 1, 1) := by decide +kernel
theorem d_CT_reserve_28 : decode c_CT_reserve 28 = .ok (.invokevirtual 131, 3) := by decide +kernel
theorem d_CT_reserve_31 : decode c_CT_reserve 31 = .ok (.aload_n 0, 1) := by decide +kernel
theorem d_CT_reserve_32 : decode c_CT_reserve 32 = .ok (.getfield 19, 3) := by decide +kernel
theorem d_CT_reserve_35 : decode c_CT_reserve 35 = .ok (.iload_n 1, 1) := by decide +kernel
theorem d_CT_reserve_36 : decode c_CT_reserve 36 = .ok (.iload_n 2, 1) := by decide +kernel
theorem d_CT_reserve_37 : decode c_CT_reserve 37 = .ok (.invokevirtual 150, 3) := by decide +kernel
theorem d_CT_reserve_40 : decode c_CT_reserve 40 = .ok (.aload_n 0, 1) := by decide +kernel
theorem d_CT_reserve_41 : decode c_CT_reserve 41 = .ok (.iload_n 3, 1) := by decide +kernel
theorem d_CT_reserve_42 : decode c_CT_reserve 42 = .ok (.invokevirtual 137, 3) := by decide +kernel
theorem d_CT_reserve_45 : decode c_CT_reserve 45 = .ok (.lreturn, 1) := by decide +kernel
set_option maxHeartbeats 4000000 in
set_option maxRecDepth 100000 in
theorem s_CT_reserve (l : Launch) (g : Gx) (ws0 : va_W) (sz : Nat) {s : CS} {a1 : Int32} {a2 : Int32} {a3 : Int32} {res : ((Nat × CS) ⊕ (Int64 × CS))} (hR : cs_Rel g ws0 ws0 s) (hl0 : l.stackTraces = false) (h : fn_CT_reserve s a1 a2 a3 = some res) : ct_XL l y_CT_reserve c_CT_reserve 4 (some .long) rm_CT_reserve g ws0 sz [.ref (g.2.1 0), .int a1, .int a2, .int a3] res 2 12 := by
  refine ct_startXl hl0 (by decide +kernel) rfl (Nat.le_of_ble_eq_true rfl) (fun p e sv m args below meth c ls Q A H locs C0 hret hout hthr hl hw => ?_)
  have hx := C0.1
  have hb := C0.2.1
  have hown := C0.2.2.2.1
  have hts := C0.2.2.2.2.1
  have hl : lv_has ls 4 [(0, .ref (g.2.1 0)), (1, .int a1), (2, .int a2), (3, .int a3)] := hl
  have J20 : ∀ (ws : va_W) (H : Heap) (locs : List Loc) (ls : Array Slot) (s : CS) (t0 : Int32), ct_Wd g A sv ws H locs → cs_Rel g ws0 ws s → lv_has ls 4 [(0, .ref (g.2.1 0)), (1, .int a1), (2, .int a2), (3, .int a3)] → bk_CT_reserve_20 a1 a2 a3 s t0 = some res → W p l e rm_CT_reserve sv m args below meth c H locs 0 0 Q (F0 m 20 ls [.int t0]) := by
    intro ws H locs ls s t0 hw hR hl h
    unfold bk_CT_reserve_20 at h
    obtain ⟨o1, ho, h⟩ := ct_xb_some h
    refine ct_callSXv C0 hw hl.1 (ct_giS wd_209 wd_210 wd_1 wd_211) (fun sz => s_CT_check l g ws sz hR.rf hl0 ho) (nA := 1) (rm := rm_CT_check) (by decide +kernel) rfl ⟨rfl, rfl⟩ (by decide) (by decide) (As := [.int t0]) (rest := []) rfl (Nat.le_of_ble_eq_true rfl) d_CT_reserve_20 (fun E ce q9 ws1 H locs k9 s9 hw ho9 hE hp h1 h2 h3 => ?_) (fun ws1 H locs s9 hw ho9 hp => ?_)
    · subst ho9; obtain rfl := Option.some.inj h; exact hout hw rfl hE (hR.trans hp) h1 h2 h3 (by decide) (by decide)
    subst ho9
    have h := ct_xc_inr h
    have hR := hR.trans hp
    clear hp
    generalize ws1 = ws at hw hR
    generalize s9 = s2 at hR h
    refine lv_aload_n hx hb d_CT_reserve_23 rfl (lv_at hl 0 rfl) ?_
    refine gf_CT_19 C0 hw hR d_CT_reserve_24 ?_
    refine lv_iload_n hx hb d_CT_reserve_27 rfl (lv_at hl 1 rfl) ?_
    obtain ⟨s3, ho, h⟩ := ct_ob_some h
    refine ct_callVv C0 hw hl.1 (q0 := 4) (hR.1 4 (by decide)) rfl (ct_giV wd_467 wd_468 wd_469 wd_3 wd_470) (fun sz => s_Re_prepare l g ws sz hR.rf ho) (nA := 1) (rm := rm_Re_prepare) (by decide +kernel) rfl ⟨rfl, rfl⟩ (by decide) (by decide) (As := [.int a1]) (rest := []) rfl (Nat.le_of_ble_eq_true rfl) d_CT_reserve_28 (fun ws1 H locs hw hp => ?_)
    have hR := hR.trans hp
    clear hp
    generalize ws1 = ws at hw hR
    refine lv_aload_n hx hb d_CT_reserve_31 rfl (lv_at hl 0 rfl) ?_
    refine gf_CT_19 C0 hw hR d_CT_reserve_32 ?_
    refine lv_iload_n hx hb d_CT_reserve_35 rfl (lv_at hl 1 rfl) ?_
    refine lv_iload_n hx hb d_CT_reserve_36 rfl (lv_at hl 2 rfl) ?_
    obtain ⟨s4, ho, h⟩ := ct_ob_some h
    refine ct_callVv C0 hw hl.1 (q0 := 4) (hR.1 4 (by decide)) rfl (ct_giV wd_608 wd_609 wd_610 wd_3 wd_611) (fun sz => s_Re_toReserve l g ws sz hR.rf ho) (nA := 2) (rm := rm_Re_toReserve) (by decide +kernel) rfl ⟨rfl, rfl⟩ (by decide) (by decide) (As := [.int a1, .int a2]) (rest := []) rfl (Nat.le_of_ble_eq_true rfl) d_CT_reserve_37 (fun ws1 H locs hw hp => ?_)
    have hR := hR.trans hp
    clear hp
    generalize ws1 = ws at hw hR
    refine lv_aload_n hx hb d_CT_reserve_40 rfl (lv_at hl 0 rfl) ?_
    refine lv_iload_n hx hb d_CT_reserve_41 rfl (lv_at hl 3 rfl) ?_
    obtain ⟨o5, ho, h⟩ := ct_xb2_some h
    refine ct_callVXl C0 hw hl.1 (q0 := 0) (hR.1 0 (by decide)) rfl (ct_giV wd_489 wd_491 sel_CT_partOfAnswer wd_1 wd_492) (fun sz => s_CT_partOfAnswer l g ws sz hR.rf hl0 ho) (nA := 1) (rm := rm_CT_partOfAnswer) (by decide +kernel) rfl ⟨rfl, rfl⟩ (by decide) (by decide) (As := [.int a3]) (rest := []) rfl (Nat.le_of_ble_eq_true rfl) d_CT_reserve_42 (fun E ce q9 ws1 H locs k9 s9 hw ho9 hE hp h1 h2 h3 => ?_) (fun r9 ws1 H locs s9 hw ho9 hp => ?_)
    · subst ho9; obtain rfl := Option.some.inj h; exact hout hw rfl hE (hR.trans hp) h1 h2 h3 (by decide) (by decide)
    subst ho9
    have h := ct_xc_inr h
    try dsimp only at h
    have hR := hR.trans hp
    clear hp
    generalize ws1 = ws at hw hR
    generalize s9 = s6 at hR h
    generalize r9 = x7 at h ⊢
    obtain rfl := Option.some.inj h
    exact hret hw ⟨_, rfl, hR⟩ (by decide) (by decide) d_CT_reserve_45
  unfold fn_CT_reserve at h
  obtain ⟨ws, hwe⟩ : ∃ z : va_W, z = ws0 := ⟨_, rfl⟩
  rw [← hwe] at hw
  have hR : cs_Rel g ws0 ws s := by rw [hwe]; exact hR
  clear hwe
  refine lv_iload_n hx hb d_CT_reserve_0 rfl (lv_at hl 1 rfl) ?_
  obtain ⟨x8, ho, h⟩ := ct_ob_some h
  refine ct_callSi C0 hw hl.1 (ct_giS wd_536 wd_537 wd_1 wd_538) (fun sz => s_CT_isMethod l g ws sz ho) (nA := 1) (rm := rm_CT_isMethod) (by decide +kernel) rfl ⟨rfl, rfl⟩ (by decide) (by decide) (As := [.int a1]) (rest := []) rfl (Nat.le_of_ble_eq_true rfl) d_CT_reserve_1 (fun ws1 H locs hw hp => ?_)
  rw [hp] at hw
  clear hp
  refine lv_if_eq hx hb (tgt := 19) d_CT_reserve_4 (by decide) (fun hc9 => ?_) (fun hc9 => ?_)
  · rw [if_pos hc9] at h
    refine lv_iconst (v := 0) hx hb d_CT_reserve_19 (by decide) ?_
    exact J20 ws H locs ls s 0 hw hR (lv_sub hl [0, 1, 2, 3] rfl) h
  · rw [if_neg hc9] at h
    refine lv_aload_n hx hb d_CT_reserve_7 rfl (lv_at hl 0 rfl) ?_
    refine lv_iload_n hx hb d_CT_reserve_8 rfl (lv_at hl 2 rfl) ?_
    obtain ⟨x9, ho, h⟩ := ct_ob_some h
    refine ct_callVi C0 hw hl.1 (q0 := 0) (hR.1 0 (by decide)) rfl (ct_giV wd_539 wd_541 sel_CT_isRow wd_1 wd_542) (fun sz => s_CT_isRow l g ws sz hR.rf ho) (nA := 1) (rm := rm_CT_isRow) (by decide +kernel) rfl ⟨rfl, rfl⟩ (by decide) (by decide) (As := [.int a2]) (rest := []) rfl (Nat.le_of_ble_eq_true rfl) d_CT_reserve_9 (fun ws1 H locs hw hp => ?_)
    rw [hp] at hw
    clear hp
    refine lv_if_eq hx hb (tgt := 19) d_CT_reserve_12 (by decide) (fun hc9 => ?_) (fun hc9 => ?_)
    · rw [if_pos hc9] at h
      refine lv_iconst (v := 0) hx hb d_CT_reserve_19 (by decide) ?_
      exact J20 ws H locs ls s 0 hw hR (lv_sub hl [0, 1, 2, 3] rfl) h
    · rw [if_neg hc9] at h
      refine lv_iconst (v := 1) hx hb d_CT_reserve_15 (by decide) ?_
      refine lv_goto hx hb (tgt := 20) d_CT_reserve_16 (by decide) ?_
      exact J20 ws H locs ls s 1 hw hR (lv_sub hl [0, 1, 2, 3] rfl) h

theorem d_Ma_floorDiv_0 : decode c_Ma_floorDiv 0 = .ok (.lload_n 0, 1) := by decide +kernel
theorem d_Ma_floorDiv_1 : decode c_Ma_floorDiv 1 = .ok (.lload_n 2, 1) := by decide +kernel
theorem d_Ma_floorDiv_2 : decode c_Ma_floorDiv 2 = .ok (.ldiv, 1) := by decide +kernel
theorem d_Ma_floorDiv_3 : decode c_Ma_floorDiv 3 = .ok (.lstore 4, 2) := by decide +kernel
theorem d_Ma_floorDiv_5 : decode c_Ma_floorDiv 5 = .ok (.lload_n 0, 1) := by decide +kernel
theorem d_Ma_floorDiv_6 : decode c_Ma_floorDiv 6 = .ok (.lload_n 2, 1) := by decide +kernel
theorem d_Ma_floorDiv_7 : decode c_Ma_floorDiv 7 = .ok (.lxor, 1) := by decide +kernel
theorem d_Ma_floorDiv_8 : decode c_Ma_floorDiv 8 = .ok (.lconst 0, 1) := by decide +kernel
theorem d_Ma_floorDiv_9 : decode c_Ma_floorDiv 9 = .ok (.lcmp, 1) := by decide +kernel
theorem d_Ma_floorDiv_10 : decode c_Ma_floorDiv 10 = .ok (.ifCond .ge 17, 3) := by decide +kernel
theorem d_Ma_floorDiv_13 : decode c_Ma_floorDiv 13 = .ok (.lload 4, 2) := by decide +kernel
theorem d_Ma_floorDiv_15 : decode c_Ma_floorDiv 15 = .ok (.lload_n 2, 1) := by decide +kernel
theorem d_Ma_floorDiv_16 : decode c_Ma_floorDiv 16 = .ok (.lmul, 1) := by decide +kernel
theorem d_Ma_floorDiv_17 : decode c_Ma_floorDiv 17 = .ok (.lload_n 0, 1) := by decide +kernel
theorem d_Ma_floorDiv_18 : decode c_Ma_floorDiv 18 = .ok (.lcmp, 1) := by decide +kernel
theorem d_Ma_floorDiv_19 : decode c_Ma_floorDiv 19 = .ok (.ifCond .eq 8, 3) := by decide +kernel
theorem d_Ma_floorDiv_22 : decode c_Ma_floorDiv 22 = .ok (.lload 4, 2) := by decide +kernel
theorem d_Ma_floorDiv_24 : decode c_Ma_floorDiv 24 = .ok (.lconst 1, 1) := by decide +kernel
theorem d_Ma_floorDiv_25 : decode c_Ma_floorDiv 25 = .ok (.lsub, 1) := by decide +kernel
theorem d_Ma_floorDiv_26 : decode c_Ma_floorDiv 26 = .ok (.lreturn, 1) := by decide +kernel
theorem d_Ma_floorDiv_27 : decode c_Ma_floorDiv 27 = .ok (.lload 4, 2) := by decide +kernel
theorem d_Ma_floorDiv_29 : decode c_Ma_floorDiv 29 = .ok (.lreturn, 1) := by decide +kernel
set_option maxHeartbeats 4000000 in
set_option maxRecDepth 100000 in
theorem s_Ma_floorDiv (l : Launch) (g : Gx) (ws0 : va_W) (sz : Nat) {a1 : Int64} {a2 : Int64} {res : Int64} (h : fn_Ma_floorDiv a1 a2 = some res) : ct_ML l y_Ma_floorDiv c_Ma_floorDiv 6 (some .long) rm_Ma_floorDiv g ws0 sz [.long a1, .long a2] res (fun u => u = ws0) := by
  refine ct_startlF (by decide +kernel) (Nat.le_of_ble_eq_true rfl) (fun p e sv m args below meth c ls Q A H locs C0 hret hl hw => ?_)
  have hx := C0.1
  have hb := C0.2.1
  have hown := C0.2.2.2.1
  have hts := C0.2.2.2.2.1
  have hl : lv_has ls 6 [(0, .long a1), (2, .long a2)] := hl
  unfold fn_Ma_floorDiv at h
  refine lv_lload_n hx hb d_Ma_floorDiv_0 rfl (lv_at hl 0 rfl) ?_
  refine lv_lload_n hx hb d_Ma_floorDiv_1 rfl (lv_at hl 1 rfl) ?_
  obtain ⟨hg, h⟩ := ct_gd_some h
  refine lv_ldiv hx hb d_Ma_floorDiv_2 (ct_gzL_ne hg) ?_
  refine lv_topl (fun x1 e9 => ?_)
  have h := ct_nm_at h e9
  clear e9
  refine lv_lstore (lv' := [(4, .long x1), (0, .long a1), (2, .long a2)]) hx hb d_Ma_floorDiv_3 hl (by decide) rfl (fun ls hl => ?_)
  refine lv_lload_n hx hb d_Ma_floorDiv_5 rfl (lv_at hl 1 rfl) ?_
  refine lv_lload_n hx hb d_Ma_floorDiv_6 rfl (lv_at hl 2 rfl) ?_
  refine lv_lxor hx hb d_Ma_floorDiv_7 ?_
  refine lv_lconst (v := 0) hx hb d_Ma_floorDiv_8 (by decide) ?_
  refine W.lcmp hx hb d_Ma_floorDiv_9 ?_
  refine lv_if_ge hx hb (tgt := 27) d_Ma_floorDiv_10 (by decide) (fun hc9 => ?_) (fun hc9 => ?_)
  · rw [if_pos hc9] at h
    refine lv_lload hx hb d_Ma_floorDiv_27 (lv_at hl 0 rfl) ?_
    obtain rfl := Option.some.inj h
    exact hret hw rfl d_Ma_floorDiv_29
  · rw [if_neg hc9] at h
    refine lv_lload hx hb d_Ma_floorDiv_13 (lv_at hl 0 rfl) ?_
    refine lv_lload_n hx hb d_Ma_floorDiv_15 rfl (lv_at hl 2 rfl) ?_
    refine lv_lmul hx hb d_Ma_floorDiv_16 ?_
    refine lv_lload_n hx hb d_Ma_floorDiv_17 rfl (lv_at hl 1 rfl) ?_
    refine W.lcmp hx hb d_Ma_floorDiv_18 ?_
    refine lv_if_eq hx hb (tgt := 27) d_Ma_floorDiv_19 (by decide) (fun hc9 => ?_) (fun hc9 => ?_)
    · rw [if_pos hc9] at h
      refine lv_lload hx hb d_Ma_floorDiv_27 (lv_at hl 0 rfl) ?_
      obtain rfl := Option.some.inj h
      exact hret hw rfl d_Ma_floorDiv_29
    · rw [if_neg hc9] at h
      refine lv_lload hx hb d_Ma_floorDiv_22 (lv_at hl 0 rfl) ?_
      refine lv_lconst (v := 1) hx hb d_Ma_floorDiv_24 (by decide) ?_
      refine lv_lsub hx hb d_Ma_floorDiv_25 ?_
      obtain rfl := Option.some.inj h
      exact hret hw rfl d_Ma_floorDiv_26

theorem d_Fr_nearest_0 : decode c_Fr_nearest 0 = .ok (.aload_n 0, 1) := by decide +kernel
theorem d_Fr_nearest_1 : decode c_Fr_nearest 1 = .ok (.getfield 19, 3) := by decide +kernel
theorem d_Fr_nearest_4 : decode c_Fr_nearest 4 = .ok (.aload_n 0, 1) := by decide +kernel
theorem d_Fr_nearest_5 : decode c_Fr_nearest 5 = .ok (.getfield 9, 3) := by decide +kernel
theorem d_Fr_nearest_8 : decode c_Fr_nearest 8 = .ok (.invokestatic 44, 3) := by decide +kernel
theorem d_Fr_nearest_11 : decode c_Fr_nearest 11 = .ok (.lstore_n 1, 1) := by decide +kernel
theorem d_Fr_nearest_12 : decode c_Fr_nearest 12 = .ok (.aload_n 0, 1) := by decide +kernel
theorem d_Fr_nearest_13 : decode c_Fr_nearest 13 = .ok (.getfield 19, 3) := by decide +kernel
theorem d_Fr_nearest_16 : decode c_Fr_nearest 16 = .ok (.lload_n 1, 1) := by decide +kernel
theorem d_Fr_nearest_17 : decode c_Fr_nearest 17 = .ok (.aload_n 0, 1) := by decide +kernel
theorem d_Fr_nearest_18 : decode c_Fr_nearest 18 = .ok (.getfield 9, 3) := by decide +kernel
theorem d_Fr_nearest_21 : decode c_Fr_nearest 21 = .ok (.lmul, 1) := by decide +kernel
theorem d_Fr_nearest_22 : decode c_Fr_nearest 22 = .ok (.lsub, 1) := by decide +kernel
theorem d_Fr_nearest_23 : decode c_Fr_nearest 23 = .ok (.lstore_n 3, 1) := by decide +kernel
theorem d_Fr_nearest_24 : decode c_Fr_nearest 24 = .ok (.lload_n 3, 1) := by decide +kernel
theorem d_Fr_nearest_25 : decode c_Fr_nearest 25 = .ok (.aload_n 0, 1) := by decide +kernel
theorem d_Fr_nearest_26 : decode c_Fr_nearest 26 = .ok (.getfield 9, 3) := by decide +kernel
theorem d_Fr_nearest_29 : decode c_Fr_nearest 29 = .ok (.lload_n 3, 1) := by decide +kernel
theorem d_Fr_nearest_30 : decode c_Fr_nearest 30 = .ok (.lsub, 1) := by decide +kernel
theorem d_Fr_nearest_31 : decode c_Fr_nearest 31 = .ok (.lcmp, 1) := by decide +kernel
theorem d_Fr_nearest_32 : decode c_Fr_nearest 32 = .ok (.ifCond .lt 9, 3) := by decide +kernel
theorem d_Fr_nearest_35 : decode c_Fr_nearest 35 = .ok (.lload_n 1, 1) := by decide +kernel
theorem d_Fr_nearest_36 : decode c_Fr_nearest 36 = .ok (.lconst 1, 1) := by decide +kernel
theorem d_Fr_nearest_37 : decode c_Fr_nearest 37 = .ok (.ladd, 1) := by decide +kernel
theorem d_Fr_nearest_38 : decode c_Fr_nearest 38 = .ok (.goto 4, 3) := by decide +kernel
theorem d_Fr_nearest_41 : decode c_Fr_nearest 41 = .ok (.lload_n 1, 1) := by decide +kernel
theorem d_Fr_nearest_42 : decode c_Fr_nearest 42 = .ok (.lreturn, 1) := by decide +kernel
set_option maxHeartbeats 4000000 in
set_option maxRecDepth 100000 in
theorem s_Fr_nearest (l : Launch) (g : Gx) (ws0 : va_W) (sz : Nat) {s : CS} {f : Nat} {res : Int64} (hR : cs_Rel g ws0 ws0 s) (hf : f < 12) (h : fn_Fr_nearest s f = some res) : ct_ML l y_Fr_nearest c_Fr_nearest 5 (some .long) rm_Fr_nearest g ws0 sz [.ref (g.2.1 (23 + f))] res (fun u => u = ws0) := by
  refine ct_startl (by decide +kernel) (Nat.le_of_ble_eq_true rfl) (fun p e sv m args below meth c ls Q A H locs C0 hret hl hw => ?_)
  have hx := C0.1
  have hb := C0.2.1
  have hown := C0.2.2.2.1
  have hts := C0.2.2.2.2.1
  have hl : lv_has ls 5 [(0, .ref (g.2.1 (23 + f)))] := hl
  unfold fn_Fr_nearest at h
  refine lv_aload_n hx hb d_Fr_nearest_0 rfl (lv_at hl 0 rfl) ?_
  refine gf_Fr_19 (f := f) hf C0 hw hR d_Fr_nearest_1 ?_
  refine lv_aload_n hx hb d_Fr_nearest_4 rfl (lv_at hl 0 rfl) ?_
  refine gf_Fr_9 (f := f) hf C0 hw hR d_Fr_nearest_5 ?_
  obtain ⟨x1, ho, h⟩ := ct_ob_some h
  refine ct_callSl C0 hw hl.1 (ct_giS wd_624 wd_625 wd_13 wd_626) (fun sz => s_Ma_floorDiv l g ws0 sz ho) (nA := 2) (rm := rm_Ma_floorDiv) (by decide +kernel) rfl ⟨rfl, rfl⟩ (by decide) (by decide) (As := [.long ((cs_F s f).1), .long ((cs_F s f).2.1)]) (rest := []) rfl (Nat.le_of_ble_eq_true rfl) d_Fr_nearest_8 (fun ws1 H locs hw hp => ?_)
  rw [hp] at hw
  clear hp
  refine lv_lstore_n (lv' := [(1, .long x1), (0, .ref (g.2.1 (23 + f)))]) hx hb d_Fr_nearest_11 rfl hl (by decide) rfl (fun ls hl => ?_)
  refine lv_aload_n hx hb d_Fr_nearest_12 rfl (lv_at hl 1 rfl) ?_
  refine gf_Fr_19 (f := f) hf C0 hw hR d_Fr_nearest_13 ?_
  refine lv_lload_n hx hb d_Fr_nearest_16 rfl (lv_at hl 0 rfl) ?_
  refine lv_aload_n hx hb d_Fr_nearest_17 rfl (lv_at hl 1 rfl) ?_
  refine gf_Fr_9 (f := f) hf C0 hw hR d_Fr_nearest_18 ?_
  refine lv_lmul hx hb d_Fr_nearest_21 ?_
  refine lv_lsub hx hb d_Fr_nearest_22 ?_
  refine lv_topl (fun x2 e9 => ?_)
  have h := ct_nm_at h e9
  clear e9
  refine lv_lstore_n (lv' := [(3, .long x2), (1, .long x1), (0, .ref (g.2.1 (23 + f)))]) hx hb d_Fr_nearest_23 rfl hl (by decide) rfl (fun ls hl => ?_)
  refine lv_lload_n hx hb d_Fr_nearest_24 rfl (lv_at hl 0 rfl) ?_
  refine lv_aload_n hx hb d_Fr_nearest_25 rfl (lv_at hl 2 rfl) ?_
  refine gf_Fr_9 (f := f) hf C0 hw hR d_Fr_nearest_26 ?_
  refine lv_lload_n hx hb d_Fr_nearest_29 rfl (lv_at hl 0 rfl) ?_
  refine lv_lsub hx hb d_Fr_nearest_30 ?_
  refine W.lcmp hx hb d_Fr_nearest_31 ?_
  refine lv_if_lt hx hb (tgt := 41) d_Fr_nearest_32 (by decide) (fun hc9 => ?_) (fun hc9 => ?_)
  · rw [if_pos hc9] at h
    refine lv_lload_n hx hb d_Fr_nearest_41 rfl (lv_at hl 1 rfl) ?_
    obtain rfl := Option.some.inj h
    exact hret hw rfl d_Fr_nearest_42
  · rw [if_neg hc9] at h
    refine lv_lload_n hx hb d_Fr_nearest_35 rfl (lv_at hl 1 rfl) ?_
    refine lv_lconst (v := 1) hx hb d_Fr_nearest_36 (by decide) ?_
    refine lv_ladd hx hb d_Fr_nearest_37 ?_
    refine lv_goto hx hb (tgt := 42) d_Fr_nearest_38 (by decide) ?_
    obtain rfl := Option.some.inj h
    exact hret hw rfl d_Fr_nearest_42

theorem d_CT_rounded_0 : decode c_CT_rounded 0 = .ok (.iload_n 1, 1) := by decide +kernel
theorem d_CT_rounded_1 : decode c_CT_rounded 1 = .ok (.invokestatic 141, 3) := by decide +kernel
theorem d_CT_rounded_4 : decode c_CT_rounded 4 = .ok (.ifCond .eq 15, 3) := by decide +kernel
theorem d_CT_rounded_7 : decode c_CT_rounded 7 = .ok (.aload_n 0, 1) := by decide +kernel
theorem d_CT_rounded_8 : decode c_CT_rounded 8 = .ok (.iload_n 2, 1) := by decide +kernel
theorem d_CT_rounded_9 : decode c_CT_rounded 9 = .ok (.invokevirtual 144, 3) := by decide +kernel
theorem d_CT_rounded_12 : decode c_CT_rounded 12 = .ok (.ifCond .eq 7, 3) := by decide +kernel
theorem d_CT_rounded_15 : decode c_CT_rounded 15 = .ok (.iconst 1, 1) := by decide +kernel
theorem d_CT_rounded_16 : decode c_CT_rounded 16 = .ok (.goto 4, 3) := by decide +kernel
theorem d_CT_rounded_19 : decode c_CT_rounded 19 = .ok (.iconst 0, 1) := by decide +kernel
theorem d_CT_rounded_20 : decode c_CT_rounded 20 = .ok (.invokestatic 37, 3) := by decide +kernel
theorem d_CT_rounded_23 : decode c_CT_rounded 23 = .ok (.aload_n 0, 1) := by decide +kernel
theorem d_CT_rounded_24 : decode c_CT_rounded 24 = .ok (.getfield 19, 3) := by decide +kernel
theorem d_CT_rounded_27 : decode c_CT_rounded 27 = .ok (.iload_n 1, 1) := by decide +kernel
theorem d_CT_rounded_28 : decode c_CT_rounded 28 = .ok (.invokevirtual 131, 3) := by decide +kernel
theorem d_CT_rounded_31 : decode c_CT_rounded 31 = .ok (.aload_n 0, 1) := by decide +kernel
theorem d_CT_rounded_32 : decode c_CT_rounded 32 = .ok (.getfield 19, 3) := by decide +kernel
theorem d_CT_rounded_35 : decode c_CT_rounded 35 = .ok (.iload_n 1, 1) := by decide +kernel
theorem d_CT_rounded_36 : decode c_CT_rounded 36 = .ok (.iload_n 2, 1) := by decide +kernel
theorem d_CT_rounded_37 : decode c_CT_rounded 37 = .ok (.invokevirtual 150, 3) := by decide +kernel
theorem d_CT_rounded_40 : decode c_CT_rounded 40 = .ok (.aload_n 0, 1) := by decide +kernel
theorem d_CT_rounded_41 : decode c_CT_rounded 41 = .ok (.invokevirtual 153, 3) := by decide +kernel
theorem d_CT_rounded_44 : decode c_CT_rounded 44 = .ok (.aload_n 0, 1) := by decide +kernel
theorem d_CT_rounded_45 : decode c_CT_rounded 45 = .ok (.getfield 19, 3) := by decide +kernel
theorem d_CT_rounded_48 : decode c_CT_rounded 48 = .ok (.getfield 156, 3) := by decide +kernel
theorem d_CT_rounded_51 : decode c_CT_rounded 51 = .ok (.invokevirtual 159, 3) := by decide +kernel
theorem d_CT_rounded_54 : decode c_CT_rounded 54 = .ok (.lreturn, 1) := by decide +kernel
set_option maxHeartbeats 4000000 in
set_option maxRecDepth 100000 in
theorem s_CT_rounded (l : Launch) (g : Gx) (ws0 : va_W) (sz : Nat) {s : CS} {a1 : Int32} {a2 : Int32} {res : ((Nat × CS) ⊕ (Int64 × CS))} (hR : cs_Rel g ws0 ws0 s) (hl0 : l.stackTraces = false) (h : fn_CT_rounded s a1 a2 = some res) : ct_XL l y_CT_rounded c_CT_rounded 3 (some .long) rm_CT_rounded g ws0 sz [.ref (g.2.1 0), .int a1, .int a2] res 2 12 := by
  refine ct_startXl hl0 (by decide +kernel) rfl (Nat.le_of_ble_eq_true rfl) (fun p e sv m args below meth c ls Q A H locs C0 hret hout hthr hl hw => ?_)
  have hx := C0.1
  have hb := C0.2.1
  have hown := C0.2.2.2.1
  have hts := C0.2.2.2.2.1
  have hl : lv_has ls 3 [(0, .ref (g.2.1 0)), (1, .int a1), (2, .int a2)] := hl
  have J20 : ∀ (ws : va_W) (H : Heap) (locs : List Loc) (ls : Array Slot) (s : CS) (t0 : Int32), ct_Wd g A sv ws H locs → cs_Rel g ws0 ws s → lv_has ls 3 [(0, .ref (g.2.1 0)), (1, .int a1), (2, .int a2)] → bk_CT_rounded_20 a1 a2 s t0 = some res → W p l e rm_CT_rounded sv m args below meth c H locs 0 0 Q (F0 m 20 ls [.int t0]) := by
    intro ws H locs ls s t0 hw hR hl h
    unfold bk_CT_rounded_20 at h
    obtain ⟨o1, ho, h⟩ := ct_xb_some h
    refine ct_callSXv C0 hw hl.1 (ct_giS wd_209 wd_210 wd_1 wd_211) (fun sz => s_CT_check l g ws sz hR.rf hl0 ho) (nA := 1) (rm := rm_CT_check) (by decide +kernel) rfl ⟨rfl, rfl⟩ (by decide) (by decide) (As := [.int t0]) (rest := []) rfl (Nat.le_of_ble_eq_true rfl) d_CT_rounded_20 (fun E ce q9 ws1 H locs k9 s9 hw ho9 hE hp h1 h2 h3 => ?_) (fun ws1 H locs s9 hw ho9 hp => ?_)
    · subst ho9; obtain rfl := Option.some.inj h; exact hout hw rfl hE (hR.trans hp) h1 h2 h3 (by decide) (by decide)
    subst ho9
    have h := ct_xc_inr h
    have hR := hR.trans hp
    clear hp
    generalize ws1 = ws at hw hR
    generalize s9 = s2 at hR h
    refine lv_aload_n hx hb d_CT_rounded_23 rfl (lv_at hl 0 rfl) ?_
    refine gf_CT_19 C0 hw hR d_CT_rounded_24 ?_
    refine lv_iload_n hx hb d_CT_rounded_27 rfl (lv_at hl 1 rfl) ?_
    obtain ⟨s3, ho, h⟩ := ct_ob_some h
    refine ct_callVv C0 hw hl.1 (q0 := 4) (hR.1 4 (by decide)) rfl (ct_giV wd_467 wd_468 wd_469 wd_3 wd_470) (fun sz => s_Re_prepare l g ws sz hR.rf ho) (nA := 1) (rm := rm_Re_prepare) (by decide +kernel) rfl ⟨rfl, rfl⟩ (by decide) (by decide) (As := [.int a1]) (rest := []) rfl (Nat.le_of_ble_eq_true rfl) d_CT_rounded_28 (fun ws1 H locs hw hp => ?_)
    have hR := hR.trans hp
    clear hp
    generalize ws1 = ws at hw hR
    refine lv_aload_n hx hb d_CT_rounded_31 rfl (lv_at hl 0 rfl) ?_
    refine gf_CT_19 C0 hw hR d_CT_rounded_32 ?_
    refine lv_iload_n hx hb d_CT_rounded_35 rfl (lv_at hl 1 rfl) ?_
    refine lv_iload_n hx hb d_CT_rounded_36 rfl (lv_at hl 2 rfl) ?_
    obtain ⟨s4, ho, h⟩ := ct_ob_some h
    refine ct_callVv C0 hw hl.1 (q0 := 4) (hR.1 4 (by decide)) rfl (ct_giV wd_608 wd_609 wd_610 wd_3 wd_611) (fun sz => s_Re_toReserve l g ws sz hR.rf ho) (nA := 2) (rm := rm_Re_toReserve) (by decide +kernel) rfl ⟨rfl, rfl⟩ (by decide) (by decide) (As := [.int a1, .int a2]) (rest := []) rfl (Nat.le_of_ble_eq_true rfl) d_CT_rounded_37 (fun ws1 H locs hw hp => ?_)
    have hR := hR.trans hp
    clear hp
    generalize ws1 = ws at hw hR
    refine lv_aload_n hx hb d_CT_rounded_40 rfl (lv_at hl 0 rfl) ?_
    obtain ⟨o5, ho, h⟩ := ct_xb_some h
    refine ct_callVXv C0 hw hl.1 (q0 := 0) (hR.1 0 (by decide)) rfl (ct_giV wd_493 wd_495 sel_CT_checkAnswer wd_1 wd_496) (fun sz => s_CT_checkAnswer l g ws sz hR.rf hl0 ho) (nA := 0) (rm := rm_CT_checkAnswer) (by decide +kernel) rfl ⟨rfl, rfl⟩ (by decide) (by decide) (As := []) (rest := []) rfl (Nat.le_of_ble_eq_true rfl) d_CT_rounded_41 (fun E ce q9 ws1 H locs k9 s9 hw ho9 hE hp h1 h2 h3 => ?_) (fun ws1 H locs s9 hw ho9 hp => ?_)
    · subst ho9; obtain rfl := Option.some.inj h; exact hout hw rfl hE (hR.trans hp) h1 h2 h3 (by decide) (by decide)
    subst ho9
    have h := ct_xc_inr h
    have hR := hR.trans hp
    clear hp
    generalize ws1 = ws at hw hR
    generalize s9 = s6 at hR h
    refine lv_aload_n hx hb d_CT_rounded_44 rfl (lv_at hl 0 rfl) ?_
    refine gf_CT_19 C0 hw hR d_CT_rounded_45 ?_
    refine gf_CT_156 C0 hw hR d_CT_rounded_48 ?_
    obtain ⟨x7, ho, h⟩ := ct_ob_some h
    refine ct_callVl C0 hw hl.1 (hR.F (f := 8) (by decide)) rfl (ct_giV wd_620 wd_621 wd_622 wd_6 wd_623) (fun sz => s_Fr_nearest l g ws sz hR.rf (by decide) ho) (nA := 0) (rm := rm_Fr_nearest) (by decide +kernel) rfl ⟨rfl, rfl⟩ (by decide) (by decide) (As := []) (rest := []) rfl (Nat.le_of_ble_eq_true rfl) d_CT_rounded_51 (fun ws1 H locs hw hp => ?_)
    rw [hp] at hw
    clear hp
    obtain rfl := Option.some.inj h
    exact hret hw ⟨_, rfl, hR⟩ (by decide) (by decide) d_CT_rounded_54
  unfold fn_CT_rounded at h
  obtain ⟨ws, hwe⟩ : ∃ z : va_W, z = ws0 := ⟨_, rfl⟩
  rw [← hwe] at hw
  have hR : cs_Rel g ws0 ws s := by rw [hwe]; exact hR
  clear hwe
  refine lv_iload_n hx hb d_CT_rounded_0 rfl (lv_at hl 1 rfl) ?_
  obtain ⟨x8, ho, h⟩ := ct_ob_some h
  refine ct_callSi C0 hw hl.1 (ct_giS wd_536 wd_537 wd_1 wd_538) (fun sz => s_CT_isMethod l g ws sz ho) (nA := 1) (rm := rm_CT_isMethod) (by decide +kernel) rfl ⟨rfl, rfl⟩ (by decide) (by decide) (As := [.int a1]) (rest := []) rfl (Nat.le_of_ble_eq_true rfl) d_CT_rounded_1 (fun ws1 H locs hw hp => ?_)
  rw [hp] at hw
  clear hp
  refine lv_if_eq hx hb (tgt := 19) d_CT_rounded_4 (by decide) (fun hc9 => ?_) (fun hc9 => ?_)
  · rw [if_pos hc9] at h
    refine lv_iconst (v := 0) hx hb d_CT_rounded_19 (by decide) ?_
    exact J20 ws H locs ls s 0 hw hR (lv_sub hl [0, 1, 2] rfl) h
  · rw [if_neg hc9] at h
    refine lv_aload_n hx hb d_CT_rounded_7 rfl (lv_at hl 0 rfl) ?_
    refine lv_iload_n hx hb d_CT_rounded_8 rfl (lv_at hl 2 rfl) ?_
    obtain ⟨x9, ho, h⟩ := ct_ob_some h
    refine ct_callVi C0 hw hl.1 (q0 := 0) (hR.1 0 (by decide)) rfl (ct_giV wd_539 wd_541 sel_CT_isRow wd_1 wd_542) (fun sz => s_CT_isRow l g ws sz hR.rf ho) (nA := 1) (rm := rm_CT_isRow) (by decide +kernel) rfl ⟨rfl, rfl⟩ (by decide) (by decide) (As := [.int a2]) (rest := []) rfl (Nat.le_of_ble_eq_true rfl) d_CT_rounded_9 (fun ws1 H locs hw hp => ?_)
    rw [hp] at hw
    clear hp
    refine lv_if_eq hx hb (tgt := 19) d_CT_rounded_12 (by decide) (fun hc9 => ?_) (fun hc9 => ?_)
    · rw [if_pos hc9] at h
      refine lv_iconst (v := 0) hx hb d_CT_rounded_19 (by decide) ?_
      exact J20 ws H locs ls s 0 hw hR (lv_sub hl [0, 1, 2] rfl) h
    · rw [if_neg hc9] at h
      refine lv_iconst (v := 1) hx hb d_CT_rounded_15 (by decide) ?_
      refine lv_goto hx hb (tgt := 20) d_CT_rounded_16 (by decide) ?_
      exact J20 ws H locs ls s 1 hw hR (lv_sub hl [0, 1, 2] rfl) h

theorem d_Re_toTotal_0 : decode c_Re_toTotal 0 = .ok (.aload_n 0, 1) := by decide +kernel
theorem d_Re_toTotal_1 : decode c_Re_toTotal 1 = .ok (.getfield 44, 3) := by decide +kernel
theorem d_Re_toTotal_4 : decode c_Re_toTotal 4 = .ok (.lconst 0, 1) := by decide +kernel
theorem d_Re_toTotal_5 : decode c_Re_toTotal 5 = .ok (.invokevirtual 105, 3) := by decide +kernel
theorem d_Re_toTotal_8 : decode c_Re_toTotal 8 = .ok (.iconst 0, 1) := by decide +kernel
theorem d_Re_toTotal_9 : decode c_Re_toTotal 9 = .ok (.istore_n 2, 1) := by decide +kernel
theorem d_Re_toTotal_10 : decode c_Re_toTotal 10 = .ok (.iload_n 2, 1) := by decide +kernel
theorem d_Re_toTotal_11 : decode c_Re_toTotal 11 = .ok (.aload_n 0, 1) := by decide +kernel
theorem d_Re_toTotal_12 : decode c_Re_toTotal 12 = .ok (.getfield 12, 3) := by decide +kernel
theorem d_Re_toTotal_15 : decode c_Re_toTotal 15 = .ok (.invokevirtual 51, 3) := by decide +kernel
theorem d_Re_toTotal_18 : decode c_Re_toTotal 18 = .ok (.if_icmp .ge 26, 3) := by decide +kernel
theorem d_Re_toTotal_21 : decode c_Re_toTotal 21 = .ok (.aload_n 0, 1) := by decide +kernel
theorem d_Re_toTotal_22 : decode c_Re_toTotal 22 = .ok (.iload_n 1, 1) := by decide +kernel
theorem d_Re_toTotal_23 : decode c_Re_toTotal 23 = .ok (.iload_n 2, 1) := by decide +kernel
theorem d_Re_toTotal_24 : decode c_Re_toTotal 24 = .ok (.invokevirtual 108, 3) := by decide +kernel
theorem d_Re_toTotal_27 : decode c_Re_toTotal 27 = .ok (.aload_n 0, 1) := by decide +kernel
theorem d_Re_toTotal_28 : decode c_Re_toTotal 28 = .ok (.getfield 44, 3) := by decide +kernel
theorem d_Re_toTotal_31 : decode c_Re_toTotal 31 = .ok (.aload_n 0, 1) := by decide +kernel
theorem d_Re_toTotal_32 : decode c_Re_toTotal 32 = .ok (.getfield 34, 3) := by decide +kernel
theorem d_Re_toTotal_35 : decode c_Re_toTotal 35 = .ok (.invokevirtual 102, 3) := by decide +kernel
theorem d_Re_toTotal_38 : decode c_Re_toTotal 38 = .ok (.iinc 2 1, 3) := by decide +kernel
theorem d_Re_toTotal_41 : decode c_Re_toTotal 41 = .ok (.goto (-31), 3) := by decide +kernel
theorem d_Re_toTotal_44 : decode c_Re_toTotal 44 = .ok (.aload_n 0, 1) := by decide +kernel
theorem d_Re_toTotal_45 : decode c_Re_toTotal 45 = .ok (.getfield 34, 3) := by decide +kernel
theorem d_Re_toTotal_48 : decode c_Re_toTotal 48 = .ok (.aload_n 0, 1) := by decide +kernel
theorem d_Re_toTotal_49 : decode c_Re_toTotal 49 = .ok (.getfield 44, 3) := by decide +kernel
theorem d_Re_toTotal_52 : decode c_Re_toTotal 52 = .ok (.invokevirtual 71, 3) := by decide +kernel
theorem d_Re_toTotal_55 : decode c_Re_toTotal 55 = .ok (.return_, 1) := by decide +kernel
set_option maxHeartbeats 4000000 in
set_option maxRecDepth 100000 in
theorem s_Re_toTotal (l : Launch) (g : Gx) (ws0 : va_W) (sz : Nat) {s : CS} {a1 : Int32} {res : CS} (hR : cs_Rel g ws0 ws0 s) (h : fn_Re_toTotal s a1 = some res) : ct_MV l y_Re_toTotal c_Re_toTotal 3 none rm_Re_toTotal g ws0 sz [.ref (g.2.1 4), .int a1]  (fun u => cs_Rel g ws0 u res) := by
  refine ct_startv (by decide +kernel) (Nat.le_of_ble_eq_true rfl) (fun p e sv m args below meth c ls Q A H locs C0 hret hl hw => ?_)
  have hx := C0.1
  have hb := C0.2.1
  have hown := C0.2.2.2.1
  have hts := C0.2.2.2.2.1
  have hl : lv_has ls 3 [(0, .ref (g.2.1 4)), (1, .int a1)] := hl
  have L10 : ∀ (n10 : Nat) (ws : va_W) (H : Heap) (locs : List Loc) (ls : Array Slot) (s : CS) (v2 : Int32), ct_Wd g A sv ws H locs → cs_Rel g ws0 ws s → lv_has ls 3 [(0, .ref (g.2.1 4)), (1, .int a1), (2, .int v2)] → bk_Re_toTotal_10 a1 n10 s v2 = some res → W p l e rm_Re_toTotal sv m args below meth c H locs 0 0 Q (F0 m 10 ls []) := by
    intro n10
    induction n10 with
    | zero =>
      intro ws H locs ls s v2 hw hR hl h
      exact absurd h (by simp [bk_Re_toTotal_10])
    | succ n10 ih10 =>
      intro ws H locs ls s v2 hw hR hl h
      have h : bk_Re_toTotal_10_o a1 (bk_Re_toTotal_10 a1 n10) s v2 = some res := h
      unfold bk_Re_toTotal_10_o at h
      refine lv_iload_n hx hb d_Re_toTotal_10 rfl (lv_at hl 2 rfl) ?_
      refine lv_aload_n hx hb d_Re_toTotal_11 rfl (lv_at hl 0 rfl) ?_
      refine gf_Re_12 C0 hw hR d_Re_toTotal_12 ?_
      obtain ⟨x1, ho, h⟩ := ct_ob_some h
      refine ct_callVi C0 hw hl.1 (q0 := 2) (hR.1 2 (by decide)) rfl (ct_giV wd_471 wd_424 wd_425 wd_4 wd_426) (fun sz => s_Tr_shown l g ws sz hR.rf ho) (nA := 0) (rm := rm_Tr_shown) (by decide +kernel) rfl ⟨rfl, rfl⟩ (by decide) (by decide) (As := []) (rest := [.int v2]) rfl (Nat.le_of_ble_eq_true rfl) d_Re_toTotal_15 (fun ws1 H locs hw hp => ?_)
      rw [hp] at hw
      clear hp
      refine lv_icmp_ge hx hb (tgt := 44) d_Re_toTotal_18 (by decide) (fun hc9 => ?_) (fun hc9 => ?_)
      · rw [if_pos hc9] at h
        refine lv_aload_n hx hb d_Re_toTotal_44 rfl (lv_at hl 0 rfl) ?_
        refine gf_Re_34 C0 hw hR d_Re_toTotal_45 ?_
        refine lv_aload_n hx hb d_Re_toTotal_48 rfl (lv_at hl 0 rfl) ?_
        refine gf_Re_44 C0 hw hR d_Re_toTotal_49 ?_
        obtain ⟨s2, ho, h⟩ := ct_ob_some h
        refine ct_callVv C0 hw hl.1 (hR.F (f := 8) (by decide)) rfl (ct_giV wd_485 wd_486 wd_487 wd_6 wd_488) (fun sz => s_Fr_copy l g ws sz hR.rf (by decide) (by decide) ho) (nA := 1) (rm := rm_Fr_copy) (by decide +kernel) rfl ⟨rfl, rfl⟩ (by decide) (by decide) (As := [.ref (g.2.1 34)]) (rest := []) rfl (Nat.le_of_ble_eq_true rfl) d_Re_toTotal_52 (fun ws1 H locs hw hp => ?_)
        have hR := hR.trans hp
        clear hp
        generalize ws1 = ws at hw hR
        obtain rfl := Option.some.inj h
        exact hret hw hR d_Re_toTotal_55
      · rw [if_neg hc9] at h
        refine lv_aload_n hx hb d_Re_toTotal_21 rfl (lv_at hl 0 rfl) ?_
        refine lv_iload_n hx hb d_Re_toTotal_22 rfl (lv_at hl 1 rfl) ?_
        refine lv_iload_n hx hb d_Re_toTotal_23 rfl (lv_at hl 2 rfl) ?_
        obtain ⟨s3, ho, h⟩ := ct_ob_some h
        refine ct_callVv C0 hw hl.1 (q0 := 4) (hR.1 4 (by decide)) rfl (ct_giV wd_638 wd_609 wd_610 wd_3 wd_611) (fun sz => s_Re_toReserve l g ws sz hR.rf ho) (nA := 2) (rm := rm_Re_toReserve) (by decide +kernel) rfl ⟨rfl, rfl⟩ (by decide) (by decide) (As := [.int a1, .int v2]) (rest := []) rfl (Nat.le_of_ble_eq_true rfl) d_Re_toTotal_24 (fun ws1 H locs hw hp => ?_)
        have hR := hR.trans hp
        clear hp
        generalize ws1 = ws at hw hR
        refine lv_aload_n hx hb d_Re_toTotal_27 rfl (lv_at hl 0 rfl) ?_
        refine gf_Re_44 C0 hw hR d_Re_toTotal_28 ?_
        refine lv_aload_n hx hb d_Re_toTotal_31 rfl (lv_at hl 0 rfl) ?_
        refine gf_Re_34 C0 hw hR d_Re_toTotal_32 ?_
        obtain ⟨s4, ho, h⟩ := ct_ob_some h
        refine ct_callVv C0 hw hl.1 (hR.F (f := 11) (by decide)) rfl (ct_giV wd_591 wd_592 wd_593 wd_6 wd_594) (fun sz => s_Fr_plus l g ws sz hR.rf (by decide) (by decide) ho) (nA := 1) (rm := rm_Fr_plus) (by decide +kernel) rfl ⟨rfl, rfl⟩ (by decide) (by decide) (As := [.ref (g.2.1 31)]) (rest := []) rfl (Nat.le_of_ble_eq_true rfl) d_Re_toTotal_35 (fun ws1 H locs hw hp => ?_)
        have hR := hR.trans hp
        clear hp
        generalize ws1 = ws at hw hR
        refine lv_iinc (v := v2 + 1) (k := 2) (lv' := [(2, .int (v2 + 1)), (0, .ref (g.2.1 4)), (1, .int a1)]) hx hb d_Re_toTotal_38 hl rfl rfl (by decide) rfl (fun ls hl => ?_)
        refine lv_goto hx hb (tgt := 10) d_Re_toTotal_41 (by decide) ?_
        exact ih10 ws H locs ls s4 (v2 + 1) hw hR (lv_sub hl [1, 2, 0] rfl) h
  unfold fn_Re_toTotal at h
  obtain ⟨ws, hwe⟩ : ∃ z : va_W, z = ws0 := ⟨_, rfl⟩
  rw [← hwe] at hw
  have hR : cs_Rel g ws0 ws s := by rw [hwe]; exact hR
  clear hwe
  refine lv_aload_n hx hb d_Re_toTotal_0 rfl (lv_at hl 0 rfl) ?_
  refine gf_Re_44 C0 hw hR d_Re_toTotal_1 ?_
  refine lv_lconst (v := 0) hx hb d_Re_toTotal_4 (by decide) ?_
  obtain ⟨s5, ho, h⟩ := ct_ob_some h
  refine ct_callVv C0 hw hl.1 (hR.F (f := 11) (by decide)) rfl (ct_giV wd_555 wd_556 wd_557 wd_6 wd_558) (fun sz => s_Fr_becomeWhole l g ws sz hR.rf (by decide) ho) (nA := 1) (rm := rm_Fr_becomeWhole) (by decide +kernel) rfl ⟨rfl, rfl⟩ (by decide) (by decide) (As := [.long 0]) (rest := []) rfl (Nat.le_of_ble_eq_true rfl) d_Re_toTotal_5 (fun ws1 H locs hw hp => ?_)
  have hR := hR.trans hp
  clear hp
  generalize ws1 = ws at hw hR
  refine lv_iconst (v := 0) hx hb d_Re_toTotal_8 (by decide) ?_
  refine lv_istore_n (lv' := [(2, .int 0), (0, .ref (g.2.1 4)), (1, .int a1)]) hx hb d_Re_toTotal_9 rfl hl (by decide) rfl (fun ls hl => ?_)
  exact L10 200 ws H locs ls s5 0 hw hR (lv_sub hl [1, 2, 0] rfl) h

theorem d_CT_total_0 : decode c_CT_total 0 = .ok (.iload_n 1, 1) := by decide +kernel
theorem d_CT_total_1 : decode c_CT_total 1 = .ok (.invokestatic 141, 3) := by decide +kernel
theorem d_CT_total_4 : decode c_CT_total 4 = .ok (.invokestatic 37, 3) := by decide +kernel
theorem d_CT_total_7 : decode c_CT_total 7 = .ok (.aload_n 0, 1) := by decide +kernel
theorem d_CT_total_8 : decode c_CT_total 8 = .ok (.getfield 19, 3) := by decide +kernel
theorem d_CT_total_11 : decode c_CT_total 11 = .ok (.iload_n 1, 1) := by decide +kernel
theorem d_CT_total_12 : decode c_CT_total 12 = .ok (.invokevirtual 131, 3) := by decide +kernel
theorem d_CT_total_15 : decode c_CT_total 15 = .ok (.aload_n 0, 1) := by decide +kernel
theorem d_CT_total_16 : decode c_CT_total 16 = .ok (.getfield 19, 3) := by decide +kernel
theorem d_CT_total_19 : decode c_CT_total 19 = .ok (.iload_n 1, 1) := by decide +kernel
theorem d_CT_total_20 : decode c_CT_total 20 = .ok (.invokevirtual 163, 3) := by decide +kernel
theorem d_CT_total_23 : decode c_CT_total 23 = .ok (.aload_n 0, 1) := by decide +kernel
theorem d_CT_total_24 : decode c_CT_total 24 = .ok (.iload_n 2, 1) := by decide +kernel
theorem d_CT_total_25 : decode c_CT_total 25 = .ok (.invokevirtual 137, 3) := by decide +kernel
theorem d_CT_total_28 : decode c_CT_total 28 = .ok (.lreturn, 1) := by decide +kernel
set_option maxHeartbeats 4000000 in
set_option maxRecDepth 100000 in
theorem s_CT_total (l : Launch) (g : Gx) (ws0 : va_W) (sz : Nat) {s : CS} {a1 : Int32} {a2 : Int32} {res : ((Nat × CS) ⊕ (Int64 × CS))} (hR : cs_Rel g ws0 ws0 s) (hl0 : l.stackTraces = false) (h : fn_CT_total s a1 a2 = some res) : ct_XL l y_CT_total c_CT_total 3 (some .long) rm_CT_total g ws0 sz [.ref (g.2.1 0), .int a1, .int a2] res 2 12 := by
  refine ct_startXl hl0 (by decide +kernel) rfl (Nat.le_of_ble_eq_true rfl) (fun p e sv m args below meth c ls Q A H locs C0 hret hout hthr hl hw => ?_)
  have hx := C0.1
  have hb := C0.2.1
  have hown := C0.2.2.2.1
  have hts := C0.2.2.2.2.1
  have hl : lv_has ls 3 [(0, .ref (g.2.1 0)), (1, .int a1), (2, .int a2)] := hl
  unfold fn_CT_total at h
  obtain ⟨ws, hwe⟩ : ∃ z : va_W, z = ws0 := ⟨_, rfl⟩
  rw [← hwe] at hw
  have hR : cs_Rel g ws0 ws s := by rw [hwe]; exact hR
  clear hwe
  refine lv_iload_n hx hb d_CT_total_0 rfl (lv_at hl 1 rfl) ?_
  obtain ⟨x1, ho, h⟩ := ct_ob_some h
  refine ct_callSi C0 hw hl.1 (ct_giS wd_536 wd_537 wd_1 wd_538) (fun sz => s_CT_isMethod l g ws sz ho) (nA := 1) (rm := rm_CT_isMethod) (by decide +kernel) rfl ⟨rfl, rfl⟩ (by decide) (by decide) (As := [.int a1]) (rest := []) rfl (Nat.le_of_ble_eq_true rfl) d_CT_total_1 (fun ws1 H locs hw hp => ?_)
  rw [hp] at hw
  clear hp
  obtain ⟨o2, ho, h⟩ := ct_xb_some h
  refine ct_callSXv C0 hw hl.1 (ct_giS wd_209 wd_210 wd_1 wd_211) (fun sz => s_CT_check l g ws sz hR.rf hl0 ho) (nA := 1) (rm := rm_CT_check) (by decide +kernel) rfl ⟨rfl, rfl⟩ (by decide) (by decide) (As := [.int x1]) (rest := []) rfl (Nat.le_of_ble_eq_true rfl) d_CT_total_4 (fun E ce q9 ws1 H locs k9 s9 hw ho9 hE hp h1 h2 h3 => ?_) (fun ws1 H locs s9 hw ho9 hp => ?_)
  · subst ho9; obtain rfl := Option.some.inj h; exact hout hw rfl hE (hR.trans hp) h1 h2 h3 (by decide) (by decide)
  subst ho9
  have h := ct_xc_inr h
  have hR := hR.trans hp
  clear hp
  generalize ws1 = ws at hw hR
  generalize s9 = s3 at hR h
  refine lv_aload_n hx hb d_CT_total_7 rfl (lv_at hl 0 rfl) ?_
  refine gf_CT_19 C0 hw hR d_CT_total_8 ?_
  refine lv_iload_n hx hb d_CT_total_11 rfl (lv_at hl 1 rfl) ?_
  obtain ⟨s4, ho, h⟩ := ct_ob_some h
  refine ct_callVv C0 hw hl.1 (q0 := 4) (hR.1 4 (by decide)) rfl (ct_giV wd_467 wd_468 wd_469 wd_3 wd_470) (fun sz => s_Re_prepare l g ws sz hR.rf ho) (nA := 1) (rm := rm_Re_prepare) (by decide +kernel) rfl ⟨rfl, rfl⟩ (by decide) (by decide) (As := [.int a1]) (rest := []) rfl (Nat.le_of_ble_eq_true rfl) d_CT_total_12 (fun ws1 H locs hw hp => ?_)
  have hR := hR.trans hp
  clear hp
  generalize ws1 = ws at hw hR
  refine lv_aload_n hx hb d_CT_total_15 rfl (lv_at hl 0 rfl) ?_
  refine gf_CT_19 C0 hw hR d_CT_total_16 ?_
  refine lv_iload_n hx hb d_CT_total_19 rfl (lv_at hl 1 rfl) ?_
  obtain ⟨s5, ho, h⟩ := ct_ob_some h
  refine ct_callVv C0 hw hl.1 (q0 := 4) (hR.1 4 (by decide)) rfl (ct_giV wd_634 wd_635 wd_636 wd_3 wd_637) (fun sz => s_Re_toTotal l g ws sz hR.rf ho) (nA := 1) (rm := rm_Re_toTotal) (by decide +kernel) rfl ⟨rfl, rfl⟩ (by decide) (by decide) (As := [.int a1]) (rest := []) rfl (Nat.le_of_ble_eq_true rfl) d_CT_total_20 (fun ws1 H locs hw hp => ?_)
  have hR := hR.trans hp
  clear hp
  generalize ws1 = ws at hw hR
  refine lv_aload_n hx hb d_CT_total_23 rfl (lv_at hl 0 rfl) ?_
  refine lv_iload_n hx hb d_CT_total_24 rfl (lv_at hl 2 rfl) ?_
  obtain ⟨o6, ho, h⟩ := ct_xb2_some h
  refine ct_callVXl C0 hw hl.1 (q0 := 0) (hR.1 0 (by decide)) rfl (ct_giV wd_489 wd_491 sel_CT_partOfAnswer wd_1 wd_492) (fun sz => s_CT_partOfAnswer l g ws sz hR.rf hl0 ho) (nA := 1) (rm := rm_CT_partOfAnswer) (by decide +kernel) rfl ⟨rfl, rfl⟩ (by decide) (by decide) (As := [.int a2]) (rest := []) rfl (Nat.le_of_ble_eq_true rfl) d_CT_total_25 (fun E ce q9 ws1 H locs k9 s9 hw ho9 hE hp h1 h2 h3 => ?_) (fun r9 ws1 H locs s9 hw ho9 hp => ?_)
  · subst ho9; obtain rfl := Option.some.inj h; exact hout hw rfl hE (hR.trans hp) h1 h2 h3 (by decide) (by decide)
  subst ho9
  have h := ct_xc_inr h
  try dsimp only at h
  have hR := hR.trans hp
  clear hp
  generalize ws1 = ws at hw hR
  generalize s9 = s7 at hR h
  generalize r9 = x8 at h ⊢
  obtain rfl := Option.some.inj h
  exact hret hw ⟨_, rfl, hR⟩ (by decide) (by decide) d_CT_total_28

theorem d_Re_markRows_0 : decode c_Re_markRows 0 = .ok (.iconst 0, 1) := by decide +kernel
theorem d_Re_markRows_1 : decode c_Re_markRows 1 = .ok (.istore_n 2, 1) := by decide +kernel
theorem d_Re_markRows_2 : decode c_Re_markRows 2 = .ok (.iconst 0, 1) := by decide +kernel
theorem d_Re_markRows_3 : decode c_Re_markRows 3 = .ok (.istore_n 3, 1) := by decide +kernel
theorem d_Re_markRows_4 : decode c_Re_markRows 4 = .ok (.iload_n 3, 1) := by decide +kernel
theorem d_Re_markRows_5 : decode c_Re_markRows 5 = .ok (.aload_n 0, 1) := by decide +kernel
theorem d_Re_markRows_6 : decode c_Re_markRows 6 = .ok (.getfield 12, 3) := by decide +kernel
theorem d_Re_markRows_9 : decode c_Re_markRows 9 = .ok (.invokevirtual 51, 3) := by decide +kernel
theorem d_Re_markRows_12 : decode c_Re_markRows 12 = .ok (.if_icmp .ge 46, 3) := by decide +kernel
theorem d_Re_markRows_15 : decode c_Re_markRows 15 = .ok (.aload_n 0, 1) := by decide +kernel
theorem d_Re_markRows_16 : decode c_Re_markRows 16 = .ok (.iload_n 1, 1) := by decide +kernel
theorem d_Re_markRows_17 : decode c_Re_markRows 17 = .ok (.iload_n 3, 1) := by decide +kernel
theorem d_Re_markRows_18 : decode c_Re_markRows 18 = .ok (.invokevirtual 108, 3) := by decide +kernel
theorem d_Re_markRows_21 : decode c_Re_markRows 21 = .ok (.aload_n 0, 1) := by decide +kernel
theorem d_Re_markRows_22 : decode c_Re_markRows 22 = .ok (.getfield 34, 3) := by decide +kernel
theorem d_Re_markRows_25 : decode c_Re_markRows 25 = .ok (.getfield 111, 3) := by decide +kernel
theorem d_Re_markRows_28 : decode c_Re_markRows 28 = .ok (.iconst 2, 1) := by decide +kernel
theorem d_Re_markRows_29 : decode c_Re_markRows 29 = .ok (.if_icmp .ne 9, 3) := by decide +kernel
theorem d_Re_markRows_32 : decode c_Re_markRows 32 = .ok (.iinc 2 1, 3) := by decide +kernel
theorem d_Re_markRows_35 : decode c_Re_markRows 35 = .ok (.goto 17, 3) := by decide +kernel
theorem d_Re_markRows_38 : decode c_Re_markRows 38 = .ok (.aload_n 0, 1) := by decide +kernel
theorem d_Re_markRows_39 : decode c_Re_markRows 39 = .ok (.getfield 34, 3) := by decide +kernel
theorem d_Re_markRows_42 : decode c_Re_markRows 42 = .ok (.getfield 111, 3) := by decide +kernel
theorem d_Re_markRows_45 : decode c_Re_markRows 45 = .ok (.iconst 1, 1) := by decide +kernel
theorem d_Re_markRows_46 : decode c_Re_markRows 46 = .ok (.if_icmp .ne 6, 3) := by decide +kernel
theorem d_Re_markRows_49 : decode c_Re_markRows 49 = .ok (.iinc 2 10, 3) := by decide +kernel
theorem d_Re_markRows_52 : decode c_Re_markRows 52 = .ok (.iinc 3 1, 3) := by decide +kernel
theorem d_Re_markRows_55 : decode c_Re_markRows 55 = .ok (.goto (-51), 3) := by decide +kernel
theorem d_Re_markRows_58 : decode c_Re_markRows 58 = .ok (.iload_n 2, 1) := by decide +kernel
theorem d_Re_markRows_59 : decode c_Re_markRows 59 = .ok (.ireturn, 1) := by decide +kernel
set_option maxHeartbeats 4000000 in
set_option maxRecDepth 100000 in
theorem s_Re_markRows (l : Launch) (g : Gx) (ws0 : va_W) (sz : Nat) {s : CS} {a1 : Int32} {res : (Int32 × CS)} (hR : cs_Rel g ws0 ws0 s) (h : fn_Re_markRows s a1 = some res) : ct_MI l y_Re_markRows c_Re_markRows 4 (some .int) rm_Re_markRows g ws0 sz [.ref (g.2.1 4), .int a1] res.1 (fun u => cs_Rel g ws0 u res.2) := by
  refine ct_starti (by decide +kernel) (Nat.le_of_ble_eq_true rfl) (fun p e sv m args below meth c ls Q A H locs C0 hret hl hw => ?_)
  have hx := C0.1
  have hb := C0.2.1
  have hown := C0.2.2.2.1
  have hts := C0.2.2.2.2.1
  have hl : lv_has ls 4 [(0, .ref (g.2.1 4)), (1, .int a1)] := hl
  have L4 : ∀ (n4 : Nat) (ws : va_W) (H : Heap) (locs : List Loc) (ls : Array Slot) (s : CS) (v2 : Int32) (v3 : Int32), ct_Wd g A sv ws H locs → cs_Rel g ws0 ws s → lv_has ls 4 [(0, .ref (g.2.1 4)), (1, .int a1), (2, .int v2), (3, .int v3)] → bk_Re_markRows_4 a1 n4 s v2 v3 = some res → W p l e rm_Re_markRows sv m args below meth c H locs 0 0 Q (F0 m 4 ls []) := by
    intro n4
    induction n4 with
    | zero =>
      intro ws H locs ls s v2 v3 hw hR hl h
      exact absurd h (by simp [bk_Re_markRows_4])
    | succ n4 ih4 =>
      have J52 : ∀ (ws : va_W) (H : Heap) (locs : List Loc) (ls : Array Slot) (s : CS) (v2 : Int32) (v3 : Int32), ct_Wd g A sv ws H locs → cs_Rel g ws0 ws s → lv_has ls 4 [(0, .ref (g.2.1 4)), (1, .int a1), (2, .int v2), (3, .int v3)] → bk_Re_markRows_52 a1 (bk_Re_markRows_4 a1 n4) s v2 v3 = some res → W p l e rm_Re_markRows sv m args below meth c H locs 0 0 Q (F0 m 52 ls []) := by
        intro ws H locs ls s v2 v3 hw hR hl h
        unfold bk_Re_markRows_52 at h
        refine lv_iinc (v := v3 + 1) (k := 3) (lv' := [(3, .int (v3 + 1)), (0, .ref (g.2.1 4)), (1, .int a1), (2, .int v2)]) hx hb d_Re_markRows_52 hl rfl rfl (by decide) rfl (fun ls hl => ?_)
        refine lv_goto hx hb (tgt := 4) d_Re_markRows_55 (by decide) ?_
        exact ih4 ws H locs ls s v2 (v3 + 1) hw hR (lv_sub hl [1, 2, 3, 0] rfl) h
      intro ws H locs ls s v2 v3 hw hR hl h
      have h : bk_Re_markRows_4_o a1 (bk_Re_markRows_4 a1 n4) s v2 v3 = some res := h
      unfold bk_Re_markRows_4_o at h
      refine lv_iload_n hx hb d_Re_markRows_4 rfl (lv_at hl 3 rfl) ?_
      refine lv_aload_n hx hb d_Re_markRows_5 rfl (lv_at hl 0 rfl) ?_
      refine gf_Re_12 C0 hw hR d_Re_markRows_6 ?_
      obtain ⟨x1, ho, h⟩ := ct_ob_some h
      refine ct_callVi C0 hw hl.1 (q0 := 2) (hR.1 2 (by decide)) rfl (ct_giV wd_471 wd_424 wd_425 wd_4 wd_426) (fun sz => s_Tr_shown l g ws sz hR.rf ho) (nA := 0) (rm := rm_Tr_shown) (by decide +kernel) rfl ⟨rfl, rfl⟩ (by decide) (by decide) (As := []) (rest := [.int v3]) rfl (Nat.le_of_ble_eq_true rfl) d_Re_markRows_9 (fun ws1 H locs hw hp => ?_)
      rw [hp] at hw
      clear hp
      refine lv_icmp_ge hx hb (tgt := 58) d_Re_markRows_12 (by decide) (fun hc9 => ?_) (fun hc9 => ?_)
      · rw [if_pos hc9] at h
        refine lv_iload_n hx hb d_Re_markRows_58 rfl (lv_at hl 2 rfl) ?_
        obtain rfl := Option.some.inj h
        exact hret hw hR d_Re_markRows_59
      · rw [if_neg hc9] at h
        refine lv_aload_n hx hb d_Re_markRows_15 rfl (lv_at hl 0 rfl) ?_
        refine lv_iload_n hx hb d_Re_markRows_16 rfl (lv_at hl 1 rfl) ?_
        refine lv_iload_n hx hb d_Re_markRows_17 rfl (lv_at hl 3 rfl) ?_
        obtain ⟨s2, ho, h⟩ := ct_ob_some h
        refine ct_callVv C0 hw hl.1 (q0 := 4) (hR.1 4 (by decide)) rfl (ct_giV wd_638 wd_609 wd_610 wd_3 wd_611) (fun sz => s_Re_toReserve l g ws sz hR.rf ho) (nA := 2) (rm := rm_Re_toReserve) (by decide +kernel) rfl ⟨rfl, rfl⟩ (by decide) (by decide) (As := [.int a1, .int v3]) (rest := []) rfl (Nat.le_of_ble_eq_true rfl) d_Re_markRows_18 (fun ws1 H locs hw hp => ?_)
        have hR := hR.trans hp
        clear hp
        generalize ws1 = ws at hw hR
        refine lv_aload_n hx hb d_Re_markRows_21 rfl (lv_at hl 0 rfl) ?_
        refine gf_Re_34 C0 hw hR d_Re_markRows_22 ?_
        refine gf_Re_111 (f := 8) (by decide) C0 hw hR d_Re_markRows_25 ?_
        refine lv_iconst (v := 2) hx hb d_Re_markRows_28 (by decide) ?_
        refine lv_icmp_ne hx hb (tgt := 38) d_Re_markRows_29 (by decide) (fun hc9 => ?_) (fun hc9 => ?_)
        · rw [if_pos hc9] at h
          refine lv_aload_n hx hb d_Re_markRows_38 rfl (lv_at hl 0 rfl) ?_
          refine gf_Re_34 C0 hw hR d_Re_markRows_39 ?_
          refine gf_Re_111 (f := 8) (by decide) C0 hw hR d_Re_markRows_42 ?_
          refine lv_iconst (v := 1) hx hb d_Re_markRows_45 (by decide) ?_
          refine lv_icmp_ne hx hb (tgt := 52) d_Re_markRows_46 (by decide) (fun hc9 => ?_) (fun hc9 => ?_)
          · rw [if_pos hc9] at h
            exact J52 ws H locs ls s2 v2 v3 hw hR (lv_sub hl [0, 1, 2, 3] rfl) h
          · rw [if_neg (fun q => q hc9)] at h
            refine lv_iinc (v := v2 + 10) (k := 2) (lv' := [(2, .int (v2 + 10)), (0, .ref (g.2.1 4)), (1, .int a1), (3, .int v3)]) hx hb d_Re_markRows_49 hl rfl rfl (by decide) rfl (fun ls hl => ?_)
            exact J52 ws H locs ls s2 (v2 + 10) v3 hw hR (lv_sub hl [1, 2, 0, 3] rfl) h
        · rw [if_neg (fun q => q hc9)] at h
          refine lv_iinc (v := v2 + 1) (k := 2) (lv' := [(2, .int (v2 + 1)), (0, .ref (g.2.1 4)), (1, .int a1), (3, .int v3)]) hx hb d_Re_markRows_32 hl rfl rfl (by decide) rfl (fun ls hl => ?_)
          refine lv_goto hx hb (tgt := 52) d_Re_markRows_35 (by decide) ?_
          exact J52 ws H locs ls s2 (v2 + 1) v3 hw hR (lv_sub hl [1, 2, 0, 3] rfl) h
  unfold fn_Re_markRows at h
  obtain ⟨ws, hwe⟩ : ∃ z : va_W, z = ws0 := ⟨_, rfl⟩
  rw [← hwe] at hw
  have hR : cs_Rel g ws0 ws s := by rw [hwe]; exact hR
  clear hwe
  refine lv_iconst (v := 0) hx hb d_Re_markRows_0 (by decide) ?_
  refine lv_istore_n (lv' := [(2, .int 0), (0, .ref (g.2.1 4)), (1, .int a1)]) hx hb d_Re_markRows_1 rfl hl (by decide) rfl (fun ls hl => ?_)
  refine lv_iconst (v := 0) hx hb d_Re_markRows_2 (by decide) ?_
  refine lv_istore_n (lv' := [(3, .int 0), (2, .int 0), (0, .ref (g.2.1 4)), (1, .int a1)]) hx hb d_Re_markRows_3 rfl hl (by decide) rfl (fun ls hl => ?_)
  exact L4 200 ws H locs ls s 0 0 hw hR (lv_sub hl [2, 3, 1, 0] rfl) h

theorem d_CT_marks_0 : decode c_CT_marks 0 = .ok (.iload_n 1, 1) := by decide +kernel
theorem d_CT_marks_1 : decode c_CT_marks 1 = .ok (.invokestatic 141, 3) := by decide +kernel
theorem d_CT_marks_4 : decode c_CT_marks 4 = .ok (.invokestatic 37, 3) := by decide +kernel
theorem d_CT_marks_7 : decode c_CT_marks 7 = .ok (.aload_n 0, 1) := by decide +kernel
theorem d_CT_marks_8 : decode c_CT_marks 8 = .ok (.getfield 19, 3) := by decide +kernel
theorem d_CT_marks_11 : decode c_CT_marks 11 = .ok (.iload_n 1, 1) := by decide +kernel
theorem d_CT_marks_12 : decode c_CT_marks 12 = .ok (.invokevirtual 131, 3) := by decide +kernel
theorem d_CT_marks_15 : decode c_CT_marks 15 = .ok (.aload_n 0, 1) := by decide +kernel
theorem d_CT_marks_16 : decode c_CT_marks 16 = .ok (.getfield 19, 3) := by decide +kernel
theorem d_CT_marks_19 : decode c_CT_marks 19 = .ok (.iload_n 1, 1) := by decide +kernel
theorem d_CT_marks_20 : decode c_CT_marks 20 = .ok (.invokevirtual 166, 3) := by decide +kernel
theorem d_CT_marks_23 : decode c_CT_marks 23 = .ok (.ireturn, 1) := by decide +kernel
set_option maxHeartbeats 4000000 in
set_option maxRecDepth 100000 in
theorem s_CT_marks (l : Launch) (g : Gx) (ws0 : va_W) (sz : Nat) {s : CS} {a1 : Int32} {res : ((Nat × CS) ⊕ (Int32 × CS))} (hR : cs_Rel g ws0 ws0 s) (hl0 : l.stackTraces = false) (h : fn_CT_marks s a1 = some res) : ct_XI l y_CT_marks c_CT_marks 2 (some .int) rm_CT_marks g ws0 sz [.ref (g.2.1 0), .int a1] res 1 6 := by
  refine ct_startXi hl0 (by decide +kernel) rfl (Nat.le_of_ble_eq_true rfl) (fun p e sv m args below meth c ls Q A H locs C0 hret hout hthr hl hw => ?_)
  have hx := C0.1
  have hb := C0.2.1
  have hown := C0.2.2.2.1
  have hts := C0.2.2.2.2.1
  have hl : lv_has ls 2 [(0, .ref (g.2.1 0)), (1, .int a1)] := hl
  unfold fn_CT_marks at h
  obtain ⟨ws, hwe⟩ : ∃ z : va_W, z = ws0 := ⟨_, rfl⟩
  rw [← hwe] at hw
  have hR : cs_Rel g ws0 ws s := by rw [hwe]; exact hR
  clear hwe
  refine lv_iload_n hx hb d_CT_marks_0 rfl (lv_at hl 1 rfl) ?_
  obtain ⟨x1, ho, h⟩ := ct_ob_some h
  refine ct_callSi C0 hw hl.1 (ct_giS wd_536 wd_537 wd_1 wd_538) (fun sz => s_CT_isMethod l g ws sz ho) (nA := 1) (rm := rm_CT_isMethod) (by decide +kernel) rfl ⟨rfl, rfl⟩ (by decide) (by decide) (As := [.int a1]) (rest := []) rfl (Nat.le_of_ble_eq_true rfl) d_CT_marks_1 (fun ws1 H locs hw hp => ?_)
  rw [hp] at hw
  clear hp
  obtain ⟨o2, ho, h⟩ := ct_xb_some h
  refine ct_callSXv C0 hw hl.1 (ct_giS wd_209 wd_210 wd_1 wd_211) (fun sz => s_CT_check l g ws sz hR.rf hl0 ho) (nA := 1) (rm := rm_CT_check) (by decide +kernel) rfl ⟨rfl, rfl⟩ (by decide) (by decide) (As := [.int x1]) (rest := []) rfl (Nat.le_of_ble_eq_true rfl) d_CT_marks_4 (fun E ce q9 ws1 H locs k9 s9 hw ho9 hE hp h1 h2 h3 => ?_) (fun ws1 H locs s9 hw ho9 hp => ?_)
  · subst ho9; obtain rfl := Option.some.inj h; exact hout hw rfl hE (hR.trans hp) h1 h2 h3 (by decide) (by decide)
  subst ho9
  have h := ct_xc_inr h
  have hR := hR.trans hp
  clear hp
  generalize ws1 = ws at hw hR
  generalize s9 = s3 at hR h
  refine lv_aload_n hx hb d_CT_marks_7 rfl (lv_at hl 0 rfl) ?_
  refine gf_CT_19 C0 hw hR d_CT_marks_8 ?_
  refine lv_iload_n hx hb d_CT_marks_11 rfl (lv_at hl 1 rfl) ?_
  obtain ⟨s4, ho, h⟩ := ct_ob_some h
  refine ct_callVv C0 hw hl.1 (q0 := 4) (hR.1 4 (by decide)) rfl (ct_giV wd_467 wd_468 wd_469 wd_3 wd_470) (fun sz => s_Re_prepare l g ws sz hR.rf ho) (nA := 1) (rm := rm_Re_prepare) (by decide +kernel) rfl ⟨rfl, rfl⟩ (by decide) (by decide) (As := [.int a1]) (rest := []) rfl (Nat.le_of_ble_eq_true rfl) d_CT_marks_12 (fun ws1 H locs hw hp => ?_)
  have hR := hR.trans hp
  clear hp
  generalize ws1 = ws at hw hR
  refine lv_aload_n hx hb d_CT_marks_15 rfl (lv_at hl 0 rfl) ?_
  refine gf_CT_19 C0 hw hR d_CT_marks_16 ?_
  refine lv_iload_n hx hb d_CT_marks_19 rfl (lv_at hl 1 rfl) ?_
  obtain ⟨x5, s6, ho, h⟩ := ct_ob2_some h
  refine ct_callVi C0 hw hl.1 (q0 := 4) (hR.1 4 (by decide)) rfl (ct_giV wd_646 wd_647 wd_648 wd_3 wd_649) (fun sz => s_Re_markRows l g ws sz hR.rf ho) (nA := 1) (rm := rm_Re_markRows) (by decide +kernel) rfl ⟨rfl, rfl⟩ (by decide) (by decide) (As := [.int a1]) (rest := []) rfl (Nat.le_of_ble_eq_true rfl) d_CT_marks_20 (fun ws1 H locs hw hp => ?_)
  have hR := hR.trans hp
  clear hp
  generalize ws1 = ws at hw hR
  obtain rfl := Option.some.inj h
  exact hret hw ⟨_, rfl, hR⟩ (by decide) (by decide) d_CT_marks_23

theorem d_Re_toSquare_0 : decode c_Re_toSquare 0 = .ok (.aload_n 0, 1) := by decide +kernel
theorem d_Re_toSquare_1 : decode c_Re_toSquare 1 = .ok (.getfield 34, 3) := by decide +kernel
theorem d_Re_toSquare_4 : decode c_Re_toSquare 4 = .ok (.aload_n 0, 1) := by decide +kernel
theorem d_Re_toSquare_5 : decode c_Re_toSquare 5 = .ok (.getfield 27, 3) := by decide +kernel
theorem d_Re_toSquare_8 : decode c_Re_toSquare 8 = .ok (.iload_n 2, 1) := by decide +kernel
theorem d_Re_toSquare_9 : decode c_Re_toSquare 9 = .ok (.aaload, 1) := by decide +kernel
theorem d_Re_toSquare_10 : decode c_Re_toSquare 10 = .ok (.invokevirtual 71, 3) := by decide +kernel
theorem d_Re_toSquare_13 : decode c_Re_toSquare 13 = .ok (.aload_n 0, 1) := by decide +kernel
theorem d_Re_toSquare_14 : decode c_Re_toSquare 14 = .ok (.getfield 34, 3) := by decide +kernel
theorem d_Re_toSquare_17 : decode c_Re_toSquare 17 = .ok (.aload_n 0, 1) := by decide +kernel
theorem d_Re_toSquare_18 : decode c_Re_toSquare 18 = .ok (.aload_n 0, 1) := by decide +kernel
theorem d_Re_toSquare_19 : decode c_Re_toSquare 19 = .ok (.getfield 12, 3) := by decide +kernel
theorem d_Re_toSquare_22 : decode c_Re_toSquare 22 = .ok (.getfield 63, 3) := by decide +kernel
theorem d_Re_toSquare_25 : decode c_Re_toSquare 25 = .ok (.iload_n 1, 1) := by decide +kernel
theorem d_Re_toSquare_26 : decode c_Re_toSquare 26 = .ok (.aaload, 1) := by decide +kernel
theorem d_Re_toSquare_27 : decode c_Re_toSquare 27 = .ok (.iload_n 2, 1) := by decide +kernel
theorem d_Re_toSquare_28 : decode c_Re_toSquare 28 = .ok (.iaload, 1) := by decide +kernel
theorem d_Re_toSquare_29 : decode c_Re_toSquare 29 = .ok (.i2l, 1) := by decide +kernel
theorem d_Re_toSquare_30 : decode c_Re_toSquare 30 = .ok (.invokevirtual 95, 3) := by decide +kernel
theorem d_Re_toSquare_33 : decode c_Re_toSquare 33 = .ok (.invokevirtual 85, 3) := by decide +kernel
theorem d_Re_toSquare_36 : decode c_Re_toSquare 36 = .ok (.aload_n 0, 1) := by decide +kernel
theorem d_Re_toSquare_37 : decode c_Re_toSquare 37 = .ok (.getfield 34, 3) := by decide +kernel
theorem d_Re_toSquare_40 : decode c_Re_toSquare 40 = .ok (.invokevirtual 123, 3) := by decide +kernel
theorem d_Re_toSquare_43 : decode c_Re_toSquare 43 = .ok (.aload_n 0, 1) := by decide +kernel
theorem d_Re_toSquare_44 : decode c_Re_toSquare 44 = .ok (.getfield 34, 3) := by decide +kernel
theorem d_Re_toSquare_47 : decode c_Re_toSquare 47 = .ok (.aload_n 0, 1) := by decide +kernel
theorem d_Re_toSquare_48 : decode c_Re_toSquare 48 = .ok (.aload_n 0, 1) := by decide +kernel
theorem d_Re_toSquare_49 : decode c_Re_toSquare 49 = .ok (.getfield 12, 3) := by decide +kernel
theorem d_Re_toSquare_52 : decode c_Re_toSquare 52 = .ok (.getfield 63, 3) := by decide +kernel
theorem d_Re_toSquare_55 : decode c_Re_toSquare 55 = .ok (.iload_n 1, 1) := by decide +kernel
theorem d_Re_toSquare_56 : decode c_Re_toSquare 56 = .ok (.aaload, 1) := by decide +kernel
theorem d_Re_toSquare_57 : decode c_Re_toSquare 57 = .ok (.iload_n 2, 1) := by decide +kernel
theorem d_Re_toSquare_58 : decode c_Re_toSquare 58 = .ok (.iconst 1, 1) := by decide +kernel
theorem d_Re_toSquare_59 : decode c_Re_toSquare 59 = .ok (.iadd, 1) := by decide +kernel
theorem d_Re_toSquare_60 : decode c_Re_toSquare 60 = .ok (.iaload, 1) := by decide +kernel
theorem d_Re_toSquare_61 : decode c_Re_toSquare 61 = .ok (.i2l, 1) := by decide +kernel
theorem d_Re_toSquare_62 : decode c_Re_toSquare 62 = .ok (.invokevirtual 95, 3) := by decide +kernel
theorem d_Re_toSquare_65 : decode c_Re_toSquare 65 = .ok (.invokevirtual 102, 3) := by decide +kernel
theorem d_Re_toSquare_68 : decode c_Re_toSquare 68 = .ok (.aload_n 0, 1) := by decide +kernel
theorem d_Re_toSquare_69 : decode c_Re_toSquare 69 = .ok (.getfield 34, 3) := by decide +kernel
theorem d_Re_toSquare_72 : decode c_Re_toSquare 72 = .ok (.aload_n 0, 1) := by decide +kernel
theorem d_Re_toSquare_73 : decode c_Re_toSquare 73 = .ok (.getfield 34, 3) := by decide +kernel
theorem d_Re_toSquare_76 : decode c_Re_toSquare 76 = .ok (.invokevirtual 85, 3) := by decide +kernel
theorem d_Re_toSquare_79 : decode c_Re_toSquare 79 = .ok (.aload_n 0, 1) := by decide +kernel
theorem d_Re_toSquare_80 : decode c_Re_toSquare 80 = .ok (.getfield 38, 3) := by decide +kernel
theorem d_Re_toSquare_83 : decode c_Re_toSquare 83 = .ok (.lconst 1, 1) := by decide +kernel
theorem d_Re_toSquare_84 : decode c_Re_toSquare 84 = .ok (.aload_n 0, 1) := by decide +kernel
theorem d_Re_toSquare_85 : decode c_Re_toSquare 85 = .ok (.getfield 12, 3) := by decide +kernel
theorem d_Re_toSquare_88 : decode c_Re_toSquare 88 = .ok (.getfield 63, 3) := by decide +kernel
theorem d_Re_toSquare_91 : decode c_Re_toSquare 91 = .ok (.iload_n 1, 1) := by decide +kernel
theorem d_Re_toSquare_92 : decode c_Re_toSquare 92 = .ok (.aaload, 1) := by decide +kernel
theorem d_Re_toSquare_93 : decode c_Re_toSquare 93 = .ok (.iload_n 2, 1) := by decide +kernel
theorem d_Re_toSquare_94 : decode c_Re_toSquare 94 = .ok (.iaload, 1) := by decide +kernel
theorem d_Re_toSquare_95 : decode c_Re_toSquare 95 = .ok (.i2l, 1) := by decide +kernel
theorem d_Re_toSquare_96 : decode c_Re_toSquare 96 = .ok (.invokevirtual 67, 3) := by decide +kernel
theorem d_Re_toSquare_99 : decode c_Re_toSquare 99 = .ok (.aload_n 0, 1) := by decide +kernel
theorem d_Re_toSquare_100 : decode c_Re_toSquare 100 = .ok (.getfield 34, 3) := by decide +kernel
theorem d_Re_toSquare_103 : decode c_Re_toSquare 103 = .ok (.aload_n 0, 1) := by decide +kernel
theorem d_Re_toSquare_104 : decode c_Re_toSquare 104 = .ok (.getfield 38, 3) := by decide +kernel
theorem d_Re_toSquare_107 : decode c_Re_toSquare 107 = .ok (.invokevirtual 85, 3) := by decide +kernel
theorem d_Re_toSquare_110 : decode c_Re_toSquare 110 = .ok (.return_, 1) := by decide +kernel
set_option maxHeartbeats 4000000 in
set_option maxRecDepth 100000 in
theorem s_Re_toSquare (l : Launch) (g : Gx) (ws0 : va_W) (sz : Nat) {s : CS} {a1 : Int32} {a2 : Int32} {res : CS} (hR : cs_Rel g ws0 ws0 s) (h : fn_Re_toSquare s a1 a2 = some res) : ct_MV l y_Re_toSquare c_Re_toSquare 3 none rm_Re_toSquare g ws0 sz [.ref (g.2.1 4), .int a1, .int a2]  (fun u => cs_Rel g ws0 u res) := by
  refine ct_startv (by decide +kernel) (Nat.le_of_ble_eq_true rfl) (fun p e sv m args below meth c ls Q A H locs C0 hret hl hw => ?_)
  have hx := C0.1
  have hb := C0.2.1
  have hown := C0.2.2.2.1
  have hts := C0.2.2.2.2.1
  have hl : lv_has ls 3 [(0, .ref (g.2.1 4)), (1, .int a1), (2, .int a2)] := hl
  unfold fn_Re_toSquare at h
  obtain ⟨ws, hwe⟩ : ∃ z : va_W, z = ws0 := ⟨_, rfl⟩
  rw [← hwe] at hw
  have hR : cs_Rel g ws0 ws s := by rw [hwe]; exact hR
  clear hwe
  refine lv_aload_n hx hb d_Re_toSquare_0 rfl (lv_at hl 0 rfl) ?_
  refine gf_Re_34 C0 hw hR d_Re_toSquare_1 ?_
  refine lv_aload_n hx hb d_Re_toSquare_4 rfl (lv_at hl 0 rfl) ?_
  refine gf_Re_27 C0 hw hR d_Re_toSquare_5 ?_
  refine lv_iload_n hx hb d_Re_toSquare_8 rfl (lv_at hl 2 rfl) ?_
  obtain ⟨hg9, h⟩ := ct_gd_some h
  refine ct_ldlk C0 hw hR (ct_inR_vp hg9) d_Re_toSquare_9 ?_
  obtain ⟨s1, ho, h⟩ := ct_ob_some h
  refine ct_callVv C0 hw hl.1 (hR.F (f := 8) (by decide)) rfl (ct_giV wd_485 wd_486 wd_487 wd_6 wd_488) (fun sz => s_Fr_copy l g ws sz hR.rf (by decide) (by have := ct_inR_lt hg9; omega) ho) (nA := 1) (rm := rm_Fr_copy) (by decide +kernel) rfl ⟨rfl, rfl⟩ (by decide) (by decide) (As := [.ref (g.2.1 (23 + (3 + a2.toNatClampNeg)))]) (rest := []) rfl (Nat.le_of_ble_eq_true rfl) d_Re_toSquare_10 (fun ws1 H locs hw hp => ?_)
  have hR := hR.trans hp
  clear hp
  generalize ws1 = ws at hw hR
  refine lv_aload_n hx hb d_Re_toSquare_13 rfl (lv_at hl 0 rfl) ?_
  refine gf_Re_34 C0 hw hR d_Re_toSquare_14 ?_
  refine lv_aload_n hx hb d_Re_toSquare_17 rfl (lv_at hl 0 rfl) ?_
  refine lv_aload_n hx hb d_Re_toSquare_18 rfl (lv_at hl 0 rfl) ?_
  refine gf_Re_12 C0 hw hR d_Re_toSquare_19 ?_
  refine gf_Re_63 C0 hw hR d_Re_toSquare_22 ?_
  refine lv_iload_n hx hb d_Re_toSquare_25 rfl (lv_at hl 1 rfl) ?_
  obtain ⟨hg26, h⟩ := ct_gd_some h
  refine ct_ldoc C0 hw hR (ct_inR_vp hg26) d_Re_toSquare_26 ?_
  refine lv_iload_n hx hb d_Re_toSquare_27 rfl (lv_at hl 2 rfl) ?_
  obtain ⟨hg28, h⟩ := ct_gd_some h
  refine ct_ldrw C0 hw hR (ct_inR_lt hg26) (ct_inR_vp hg28) d_Re_toSquare_28 ?_
  refine lv_i2l hx hb d_Re_toSquare_29 rfl ?_
  obtain ⟨x2, s3, ho, h⟩ := ct_ob2_some h
  refine ct_callVr C0 hw hl.1 (q0 := 4) (hR.1 4 (by decide)) rfl (ct_giV wd_587 wd_589 sel_Re_asWhole wd_3 wd_590) (fun sz => s_Re_asWhole l g ws sz hR.rf ho) (nA := 1) (rm := rm_Re_asWhole) (by decide +kernel) rfl ⟨rfl, rfl⟩ (by decide) (by decide) (As := [.long ((cs_R s1 a1.toNatClampNeg a2.toNatClampNeg).toInt64)]) (rest := [.ref (g.2.1 31)]) rfl (Nat.le_of_ble_eq_true rfl) d_Re_toSquare_30 (fun ws1 H locs hw hp => ?_)
  have hR := hR.trans hp
  clear hp
  generalize ws1 = ws at hw hR
  have hx2 : x2 < 12 := lt_Re_asWhole ho
  obtain ⟨s4, ho, h⟩ := ct_ob_some h
  refine ct_callVv C0 hw hl.1 (hR.F (f := 8) (by decide)) rfl (ct_giV wd_560 wd_561 wd_562 wd_6 wd_563) (fun sz => s_Fr_times l g ws sz hR.rf (by decide) hx2 ho) (nA := 1) (rm := rm_Fr_times) (by decide +kernel) rfl ⟨rfl, rfl⟩ (by decide) (by decide) (As := [.ref (g.2.1 (23 + x2))]) (rest := []) rfl (Nat.le_of_ble_eq_true rfl) d_Re_toSquare_33 (fun ws1 H locs hw hp => ?_)
  have hR := hR.trans hp
  clear hp
  generalize ws1 = ws at hw hR
  refine lv_aload_n hx hb d_Re_toSquare_36 rfl (lv_at hl 0 rfl) ?_
  refine gf_Re_34 C0 hw hR d_Re_toSquare_37 ?_
  obtain ⟨s5, ho, h⟩ := ct_ob_some h
  refine ct_callVv C0 hw hl.1 (hR.F (f := 8) (by decide)) rfl (ct_giV wd_583 wd_584 wd_585 wd_6 wd_586) (fun sz => s_Fr_negate l g ws sz hR.rf (by decide) ho) (nA := 0) (rm := rm_Fr_negate) (by decide +kernel) rfl ⟨rfl, rfl⟩ (by decide) (by decide) (As := []) (rest := []) rfl (Nat.le_of_ble_eq_true rfl) d_Re_toSquare_40 (fun ws1 H locs hw hp => ?_)
  have hR := hR.trans hp
  clear hp
  generalize ws1 = ws at hw hR
  refine lv_aload_n hx hb d_Re_toSquare_43 rfl (lv_at hl 0 rfl) ?_
  refine gf_Re_34 C0 hw hR d_Re_toSquare_44 ?_
  refine lv_aload_n hx hb d_Re_toSquare_47 rfl (lv_at hl 0 rfl) ?_
  refine lv_aload_n hx hb d_Re_toSquare_48 rfl (lv_at hl 0 rfl) ?_
  refine gf_Re_12 C0 hw hR d_Re_toSquare_49 ?_
  refine gf_Re_63 C0 hw hR d_Re_toSquare_52 ?_
  refine lv_iload_n hx hb d_Re_toSquare_55 rfl (lv_at hl 1 rfl) ?_
  obtain ⟨hg56, h⟩ := ct_gd_some h
  refine ct_ldoc C0 hw hR (ct_inR_vp hg56) d_Re_toSquare_56 ?_
  refine lv_iload_n hx hb d_Re_toSquare_57 rfl (lv_at hl 2 rfl) ?_
  refine lv_iconst (v := 1) hx hb d_Re_toSquare_58 (by decide) ?_
  refine lv_iadd hx hb d_Re_toSquare_59 ?_
  obtain ⟨hg60, h⟩ := ct_gd_some h
  refine ct_ldrw C0 hw hR (ct_inR_lt hg56) (ct_inR_vp hg60) d_Re_toSquare_60 ?_
  refine lv_i2l hx hb d_Re_toSquare_61 rfl ?_
  obtain ⟨x6, s7, ho, h⟩ := ct_ob2_some h
  refine ct_callVr C0 hw hl.1 (q0 := 4) (hR.1 4 (by decide)) rfl (ct_giV wd_587 wd_589 sel_Re_asWhole wd_3 wd_590) (fun sz => s_Re_asWhole l g ws sz hR.rf ho) (nA := 1) (rm := rm_Re_asWhole) (by decide +kernel) rfl ⟨rfl, rfl⟩ (by decide) (by decide) (As := [.long ((cs_R s5 a1.toNatClampNeg (a2 + 1).toNatClampNeg).toInt64)]) (rest := [.ref (g.2.1 31)]) rfl (Nat.le_of_ble_eq_true rfl) d_Re_toSquare_62 (fun ws1 H locs hw hp => ?_)
  have hR := hR.trans hp
  clear hp
  generalize ws1 = ws at hw hR
  have hx6 : x6 < 12 := lt_Re_asWhole ho
  obtain ⟨s8, ho, h⟩ := ct_ob_some h
  refine ct_callVv C0 hw hl.1 (hR.F (f := 8) (by decide)) rfl (ct_giV wd_591 wd_592 wd_593 wd_6 wd_594) (fun sz => s_Fr_plus l g ws sz hR.rf (by decide) hx6 ho) (nA := 1) (rm := rm_Fr_plus) (by decide +kernel) rfl ⟨rfl, rfl⟩ (by decide) (by decide) (As := [.ref (g.2.1 (23 + x6))]) (rest := []) rfl (Nat.le_of_ble_eq_true rfl) d_Re_toSquare_65 (fun ws1 H locs hw hp => ?_)
  have hR := hR.trans hp
  clear hp
  generalize ws1 = ws at hw hR
  refine lv_aload_n hx hb d_Re_toSquare_68 rfl (lv_at hl 0 rfl) ?_
  refine gf_Re_34 C0 hw hR d_Re_toSquare_69 ?_
  refine lv_aload_n hx hb d_Re_toSquare_72 rfl (lv_at hl 0 rfl) ?_
  refine gf_Re_34 C0 hw hR d_Re_toSquare_73 ?_
  obtain ⟨s9, ho, h⟩ := ct_ob_some h
  refine ct_callVv C0 hw hl.1 (hR.F (f := 8) (by decide)) rfl (ct_giV wd_560 wd_561 wd_562 wd_6 wd_563) (fun sz => s_Fr_times l g ws sz hR.rf (by decide) (by decide) ho) (nA := 1) (rm := rm_Fr_times) (by decide +kernel) rfl ⟨rfl, rfl⟩ (by decide) (by decide) (As := [.ref (g.2.1 31)]) (rest := []) rfl (Nat.le_of_ble_eq_true rfl) d_Re_toSquare_76 (fun ws1 H locs hw hp => ?_)
  have hR := hR.trans hp
  clear hp
  generalize ws1 = ws at hw hR
  refine lv_aload_n hx hb d_Re_toSquare_79 rfl (lv_at hl 0 rfl) ?_
  refine gf_Re_38 C0 hw hR d_Re_toSquare_80 ?_
  refine lv_lconst (v := 1) hx hb d_Re_toSquare_83 (by decide) ?_
  refine lv_aload_n hx hb d_Re_toSquare_84 rfl (lv_at hl 0 rfl) ?_
  refine gf_Re_12 C0 hw hR d_Re_toSquare_85 ?_
  refine gf_Re_63 C0 hw hR d_Re_toSquare_88 ?_
  refine lv_iload_n hx hb d_Re_toSquare_91 rfl (lv_at hl 1 rfl) ?_
  obtain ⟨hg92, h⟩ := ct_gd_some h
  refine ct_ldoc C0 hw hR (ct_inR_vp hg92) d_Re_toSquare_92 ?_
  refine lv_iload_n hx hb d_Re_toSquare_93 rfl (lv_at hl 2 rfl) ?_
  obtain ⟨hg94, h⟩ := ct_gd_some h
  refine ct_ldrw C0 hw hR (ct_inR_lt hg92) (ct_inR_vp hg94) d_Re_toSquare_94 ?_
  refine lv_i2l hx hb d_Re_toSquare_95 rfl ?_
  obtain ⟨s10, ho, h⟩ := ct_ob_some h
  refine ct_callVv C0 hw hl.1 (hR.F (f := 9) (by decide)) rfl (ct_giV wd_480 wd_389 wd_390 wd_6 wd_391) (fun sz => s_Fr_become l g ws sz hR.rf (by decide) ho) (nA := 2) (rm := rm_Fr_become) (by decide +kernel) rfl ⟨rfl, rfl⟩ (by decide) (by decide) (As := [.long 1, .long ((cs_R s9 a1.toNatClampNeg a2.toNatClampNeg).toInt64)]) (rest := []) rfl (Nat.le_of_ble_eq_true rfl) d_Re_toSquare_96 (fun ws1 H locs hw hp => ?_)
  have hR := hR.trans hp
  clear hp
  generalize ws1 = ws at hw hR
  refine lv_aload_n hx hb d_Re_toSquare_99 rfl (lv_at hl 0 rfl) ?_
  refine gf_Re_34 C0 hw hR d_Re_toSquare_100 ?_
  refine lv_aload_n hx hb d_Re_toSquare_103 rfl (lv_at hl 0 rfl) ?_
  refine gf_Re_38 C0 hw hR d_Re_toSquare_104 ?_
  obtain ⟨s11, ho, h⟩ := ct_ob_some h
  refine ct_callVv C0 hw hl.1 (hR.F (f := 8) (by decide)) rfl (ct_giV wd_560 wd_561 wd_562 wd_6 wd_563) (fun sz => s_Fr_times l g ws sz hR.rf (by decide) (by decide) ho) (nA := 1) (rm := rm_Fr_times) (by decide +kernel) rfl ⟨rfl, rfl⟩ (by decide) (by decide) (As := [.ref (g.2.1 32)]) (rest := []) rfl (Nat.le_of_ble_eq_true rfl) d_Re_toSquare_107 (fun ws1 H locs hw hp => ?_)
  have hR := hR.trans hp
  clear hp
  generalize ws1 = ws at hw hR
  obtain rfl := Option.some.inj h
  exact hret hw hR d_Re_toSquare_110

theorem d_Re_toDeviation_0 : decode c_Re_toDeviation 0 = .ok (.iconst 0, 1) := by decide +kernel
theorem d_Re_toDeviation_1 : decode c_Re_toDeviation 1 = .ok (.istore_n 2, 1) := by decide +kernel
theorem d_Re_toDeviation_2 : decode c_Re_toDeviation 2 = .ok (.aload_n 0, 1) := by decide +kernel
theorem d_Re_toDeviation_3 : decode c_Re_toDeviation 3 = .ok (.getfield 44, 3) := by decide +kernel
theorem d_Re_toDeviation_6 : decode c_Re_toDeviation 6 = .ok (.lconst 0, 1) := by decide +kernel
theorem d_Re_toDeviation_7 : decode c_Re_toDeviation 7 = .ok (.invokevirtual 105, 3) := by decide +kernel
theorem d_Re_toDeviation_10 : decode c_Re_toDeviation 10 = .ok (.iconst 0, 1) := by decide +kernel
theorem d_Re_toDeviation_11 : decode c_Re_toDeviation 11 = .ok (.istore_n 3, 1) := by decide +kernel
theorem d_Re_toDeviation_12 : decode c_Re_toDeviation 12 = .ok (.iload_n 3, 1) := by decide +kernel
theorem d_Re_toDeviation_13 : decode c_Re_toDeviation 13 = .ok (.aload_n 0, 1) := by decide +kernel
theorem d_Re_toDeviation_14 : decode c_Re_toDeviation 14 = .ok (.getfield 12, 3) := by decide +kernel
theorem d_Re_toDeviation_17 : decode c_Re_toDeviation 17 = .ok (.invokevirtual 51, 3) := by decide +kernel
theorem d_Re_toDeviation_20 : decode c_Re_toDeviation 20 = .ok (.iconst 1, 1) := by decide +kernel
theorem d_Re_toDeviation_21 : decode c_Re_toDeviation 21 = .ok (.isub, 1) := by decide +kernel
theorem d_Re_toDeviation_22 : decode c_Re_toDeviation 22 = .ok (.iload_n 1, 1) := by decide +kernel
theorem d_Re_toDeviation_23 : decode c_Re_toDeviation 23 = .ok (.isub, 1) := by decide +kernel
theorem d_Re_toDeviation_24 : decode c_Re_toDeviation 24 = .ok (.if_icmp .ge 41, 3) := by decide +kernel
theorem d_Re_toDeviation_27 : decode c_Re_toDeviation 27 = .ok (.aload_n 0, 1) := by decide +kernel
theorem d_Re_toDeviation_28 : decode c_Re_toDeviation 28 = .ok (.getfield 12, 3) := by decide +kernel
theorem d_Re_toDeviation_31 : decode c_Re_toDeviation 31 = .ok (.iload_n 3, 1) := by decide +kernel
theorem d_Re_toDeviation_32 : decode c_Re_toDeviation 32 = .ok (.iload_n 1, 1) := by decide +kernel
theorem d_Re_toDeviation_33 : decode c_Re_toDeviation 33 = .ok (.invokevirtual 59, 3) := by decide +kernel
theorem d_Re_toDeviation_36 : decode c_Re_toDeviation 36 = .ok (.ifCond .eq 23, 3) := by decide +kernel
theorem d_Re_toDeviation_39 : decode c_Re_toDeviation 39 = .ok (.aload_n 0, 1) := by decide +kernel
theorem d_Re_toDeviation_40 : decode c_Re_toDeviation 40 = .ok (.iload_n 3, 1) := by decide +kernel
theorem d_Re_toDeviation_41 : decode c_Re_toDeviation 41 = .ok (.iload_n 1, 1) := by decide +kernel
theorem d_Re_toDeviation_42 : decode c_Re_toDeviation 42 = .ok (.invokevirtual 114, 3) := by decide +kernel
theorem d_Re_toDeviation_45 : decode c_Re_toDeviation 45 = .ok (.aload_n 0, 1) := by decide +kernel
theorem d_Re_toDeviation_46 : decode c_Re_toDeviation 46 = .ok (.getfield 44, 3) := by decide +kernel
theorem d_Re_toDeviation_49 : decode c_Re_toDeviation 49 = .ok (.aload_n 0, 1) := by decide +kernel
theorem d_Re_toDeviation_50 : decode c_Re_toDeviation 50 = .ok (.getfield 34, 3) := by decide +kernel
theorem d_Re_toDeviation_53 : decode c_Re_toDeviation 53 = .ok (.invokevirtual 102, 3) := by decide +kernel
theorem d_Re_toDeviation_56 : decode c_Re_toDeviation 56 = .ok (.iinc 2 1, 3) := by decide +kernel
theorem d_Re_toDeviation_59 : decode c_Re_toDeviation 59 = .ok (.iinc 3 1, 3) := by decide +kernel
theorem d_Re_toDeviation_62 : decode c_Re_toDeviation 62 = .ok (.goto (-50), 3) := by decide +kernel
theorem d_Re_toDeviation_65 : decode c_Re_toDeviation 65 = .ok (.aload_n 0, 1) := by decide +kernel
theorem d_Re_toDeviation_66 : decode c_Re_toDeviation 66 = .ok (.getfield 34, 3) := by decide +kernel
theorem d_Re_toDeviation_69 : decode c_Re_toDeviation 69 = .ok (.lconst 1, 1) := by decide +kernel
theorem d_Re_toDeviation_70 : decode c_Re_toDeviation 70 = .ok (.iload_n 2, 1) := by decide +kernel
theorem d_Re_toDeviation_71 : decode c_Re_toDeviation 71 = .ok (.iconst 1, 1) := by decide +kernel
theorem d_Re_toDeviation_72 : decode c_Re_toDeviation 72 = .ok (.isub, 1) := by decide +kernel
theorem d_Re_toDeviation_73 : decode c_Re_toDeviation 73 = .ok (.iconst 0, 1) := by decide +kernel
theorem d_Re_toDeviation_74 : decode c_Re_toDeviation 74 = .ok (.invokestatic 117, 3) := by decide +kernel
theorem d_Re_toDeviation_77 : decode c_Re_toDeviation 77 = .ok (.i2l, 1) := by decide +kernel
theorem d_Re_toDeviation_78 : decode c_Re_toDeviation 78 = .ok (.invokevirtual 67, 3) := by decide +kernel
theorem d_Re_toDeviation_81 : decode c_Re_toDeviation 81 = .ok (.aload_n 0, 1) := by decide +kernel
theorem d_Re_toDeviation_82 : decode c_Re_toDeviation 82 = .ok (.getfield 34, 3) := by decide +kernel
theorem d_Re_toDeviation_85 : decode c_Re_toDeviation 85 = .ok (.aload_n 0, 1) := by decide +kernel
theorem d_Re_toDeviation_86 : decode c_Re_toDeviation 86 = .ok (.getfield 44, 3) := by decide +kernel
theorem d_Re_toDeviation_89 : decode c_Re_toDeviation 89 = .ok (.invokevirtual 85, 3) := by decide +kernel
theorem d_Re_toDeviation_92 : decode c_Re_toDeviation 92 = .ok (.return_, 1) := by decide +kernel
set_option maxHeartbeats 4000000 in
set_option maxRecDepth 100000 in
theorem s_Re_toDeviation (l : Launch) (g : Gx) (ws0 : va_W) (sz : Nat) {s : CS} {a1 : Int32} {res : CS} (hR : cs_Rel g ws0 ws0 s) (h : fn_Re_toDeviation s a1 = some res) : ct_MV l y_Re_toDeviation c_Re_toDeviation 4 none rm_Re_toDeviation g ws0 sz [.ref (g.2.1 4), .int a1]  (fun u => cs_Rel g ws0 u res) := by
  refine ct_startv (by decide +kernel) (Nat.le_of_ble_eq_true rfl) (fun p e sv m args below meth c ls Q A H locs C0 hret hl hw => ?_)
  have hx := C0.1
  have hb := C0.2.1
  have hown := C0.2.2.2.1
  have hts := C0.2.2.2.2.1
  have hl : lv_has ls 4 [(0, .ref (g.2.1 4)), (1, .int a1)] := hl
  have L12 : ∀ (n12 : Nat) (ws : va_W) (H : Heap) (locs : List Loc) (ls : Array Slot) (s : CS) (v2 : Int32) (v3 : Int32), ct_Wd g A sv ws H locs → cs_Rel g ws0 ws s → lv_has ls 4 [(0, .ref (g.2.1 4)), (1, .int a1), (2, .int v2), (3, .int v3)] → bk_Re_toDeviation_12 a1 n12 s v2 v3 = some res → W p l e rm_Re_toDeviation sv m args below meth c H locs 0 0 Q (F0 m 12 ls []) := by
    intro n12
    induction n12 with
    | zero =>
      intro ws H locs ls s v2 v3 hw hR hl h
      exact absurd h (by simp [bk_Re_toDeviation_12])
    | succ n12 ih12 =>
      have J59 : ∀ (ws : va_W) (H : Heap) (locs : List Loc) (ls : Array Slot) (s : CS) (v2 : Int32) (v3 : Int32), ct_Wd g A sv ws H locs → cs_Rel g ws0 ws s → lv_has ls 4 [(0, .ref (g.2.1 4)), (1, .int a1), (2, .int v2), (3, .int v3)] → bk_Re_toDeviation_59 a1 (bk_Re_toDeviation_12 a1 n12) s v2 v3 = some res → W p l e rm_Re_toDeviation sv m args below meth c H locs 0 0 Q (F0 m 59 ls []) := by
        intro ws H locs ls s v2 v3 hw hR hl h
        unfold bk_Re_toDeviation_59 at h
        refine lv_iinc (v := v3 + 1) (k := 3) (lv' := [(3, .int (v3 + 1)), (0, .ref (g.2.1 4)), (1, .int a1), (2, .int v2)]) hx hb d_Re_toDeviation_59 hl rfl rfl (by decide) rfl (fun ls hl => ?_)
        refine lv_goto hx hb (tgt := 12) d_Re_toDeviation_62 (by decide) ?_
        exact ih12 ws H locs ls s v2 (v3 + 1) hw hR (lv_sub hl [1, 2, 3, 0] rfl) h
      intro ws H locs ls s v2 v3 hw hR hl h
      have h : bk_Re_toDeviation_12_o a1 (bk_Re_toDeviation_12 a1 n12) s v2 v3 = some res := h
      unfold bk_Re_toDeviation_12_o at h
      refine lv_iload_n hx hb d_Re_toDeviation_12 rfl (lv_at hl 3 rfl) ?_
      refine lv_aload_n hx hb d_Re_toDeviation_13 rfl (lv_at hl 0 rfl) ?_
      refine gf_Re_12 C0 hw hR d_Re_toDeviation_14 ?_
      obtain ⟨x1, ho, h⟩ := ct_ob_some h
      refine ct_callVi C0 hw hl.1 (q0 := 2) (hR.1 2 (by decide)) rfl (ct_giV wd_471 wd_424 wd_425 wd_4 wd_426) (fun sz => s_Tr_shown l g ws sz hR.rf ho) (nA := 0) (rm := rm_Tr_shown) (by decide +kernel) rfl ⟨rfl, rfl⟩ (by decide) (by decide) (As := []) (rest := [.int v3]) rfl (Nat.le_of_ble_eq_true rfl) d_Re_toDeviation_17 (fun ws1 H locs hw hp => ?_)
      rw [hp] at hw
      clear hp
      refine lv_iconst (v := 1) hx hb d_Re_toDeviation_20 (by decide) ?_
      refine lv_isub hx hb d_Re_toDeviation_21 ?_
      refine lv_iload_n hx hb d_Re_toDeviation_22 rfl (lv_at hl 1 rfl) ?_
      refine lv_isub hx hb d_Re_toDeviation_23 ?_
      refine lv_icmp_ge hx hb (tgt := 65) d_Re_toDeviation_24 (by decide) (fun hc9 => ?_) (fun hc9 => ?_)
      · rw [if_pos hc9] at h
        refine lv_aload_n hx hb d_Re_toDeviation_65 rfl (lv_at hl 0 rfl) ?_
        refine gf_Re_34 C0 hw hR d_Re_toDeviation_66 ?_
        refine lv_lconst (v := 1) hx hb d_Re_toDeviation_69 (by decide) ?_
        refine lv_iload_n hx hb d_Re_toDeviation_70 rfl (lv_at hl 2 rfl) ?_
        refine lv_iconst (v := 1) hx hb d_Re_toDeviation_71 (by decide) ?_
        refine lv_isub hx hb d_Re_toDeviation_72 ?_
        refine lv_iconst (v := 0) hx hb d_Re_toDeviation_73 (by decide) ?_
        refine ma_Re_117 C0 (by rw [C0.2.2.1]; exact hl.1.symm) (by decide) (Nat.le_of_ble_eq_true rfl) d_Re_toDeviation_74 ?_
        refine lv_i2l hx hb d_Re_toDeviation_77 rfl ?_
        obtain ⟨s2, ho, h⟩ := ct_ob_some h
        refine ct_callVv C0 hw hl.1 (hR.F (f := 8) (by decide)) rfl (ct_giV wd_480 wd_389 wd_390 wd_6 wd_391) (fun sz => s_Fr_become l g ws sz hR.rf (by decide) ho) (nA := 2) (rm := rm_Fr_become) (by decide +kernel) rfl ⟨rfl, rfl⟩ (by decide) (by decide) (As := [.long 1, .long ((ct_mxI (v2 - 1) 0).toInt64)]) (rest := []) rfl (Nat.le_of_ble_eq_true rfl) d_Re_toDeviation_78 (fun ws1 H locs hw hp => ?_)
        have hR := hR.trans hp
        clear hp
        generalize ws1 = ws at hw hR
        refine lv_aload_n hx hb d_Re_toDeviation_81 rfl (lv_at hl 0 rfl) ?_
        refine gf_Re_34 C0 hw hR d_Re_toDeviation_82 ?_
        refine lv_aload_n hx hb d_Re_toDeviation_85 rfl (lv_at hl 0 rfl) ?_
        refine gf_Re_44 C0 hw hR d_Re_toDeviation_86 ?_
        obtain ⟨s3, ho, h⟩ := ct_ob_some h
        refine ct_callVv C0 hw hl.1 (hR.F (f := 8) (by decide)) rfl (ct_giV wd_560 wd_561 wd_562 wd_6 wd_563) (fun sz => s_Fr_times l g ws sz hR.rf (by decide) (by decide) ho) (nA := 1) (rm := rm_Fr_times) (by decide +kernel) rfl ⟨rfl, rfl⟩ (by decide) (by decide) (As := [.ref (g.2.1 34)]) (rest := []) rfl (Nat.le_of_ble_eq_true rfl) d_Re_toDeviation_89 (fun ws1 H locs hw hp => ?_)
        have hR := hR.trans hp
        clear hp
        generalize ws1 = ws at hw hR
        obtain rfl := Option.some.inj h
        exact hret hw hR d_Re_toDeviation_92
      · rw [if_neg hc9] at h
        refine lv_aload_n hx hb d_Re_toDeviation_27 rfl (lv_at hl 0 rfl) ?_
        refine gf_Re_12 C0 hw hR d_Re_toDeviation_28 ?_
        refine lv_iload_n hx hb d_Re_toDeviation_31 rfl (lv_at hl 3 rfl) ?_
        refine lv_iload_n hx hb d_Re_toDeviation_32 rfl (lv_at hl 1 rfl) ?_
        obtain ⟨x4, ho, h⟩ := ct_ob_some h
        refine ct_callVi C0 hw hl.1 (q0 := 2) (hR.1 2 (by decide)) rfl (ct_giV wd_476 wd_477 wd_478 wd_4 wd_479) (fun sz => s_Tr_takes l g ws sz hR.rf ho) (nA := 2) (rm := rm_Tr_takes) (by decide +kernel) rfl ⟨rfl, rfl⟩ (by decide) (by decide) (As := [.int v3, .int a1]) (rest := []) rfl (Nat.le_of_ble_eq_true rfl) d_Re_toDeviation_33 (fun ws1 H locs hw hp => ?_)
        rw [hp] at hw
        clear hp
        refine lv_if_eq hx hb (tgt := 59) d_Re_toDeviation_36 (by decide) (fun hc9 => ?_) (fun hc9 => ?_)
        · rw [if_pos hc9] at h
          exact J59 ws H locs ls s v2 v3 hw hR (lv_sub hl [0, 1, 2, 3] rfl) h
        · rw [if_neg hc9] at h
          refine lv_aload_n hx hb d_Re_toDeviation_39 rfl (lv_at hl 0 rfl) ?_
          refine lv_iload_n hx hb d_Re_toDeviation_40 rfl (lv_at hl 3 rfl) ?_
          refine lv_iload_n hx hb d_Re_toDeviation_41 rfl (lv_at hl 1 rfl) ?_
          obtain ⟨s5, ho, h⟩ := ct_ob_some h
          refine ct_callVv C0 hw hl.1 (q0 := 4) (hR.1 4 (by decide)) rfl (ct_giV wd_661 wd_663 sel_Re_toSquare wd_3 wd_664) (fun sz => s_Re_toSquare l g ws sz hR.rf ho) (nA := 2) (rm := rm_Re_toSquare) (by decide +kernel) rfl ⟨rfl, rfl⟩ (by decide) (by decide) (As := [.int v3, .int a1]) (rest := []) rfl (Nat.le_of_ble_eq_true rfl) d_Re_toDeviation_42 (fun ws1 H locs hw hp => ?_)
          have hR := hR.trans hp
          clear hp
          generalize ws1 = ws at hw hR
          refine lv_aload_n hx hb d_Re_toDeviation_45 rfl (lv_at hl 0 rfl) ?_
          refine gf_Re_44 C0 hw hR d_Re_toDeviation_46 ?_
          refine lv_aload_n hx hb d_Re_toDeviation_49 rfl (lv_at hl 0 rfl) ?_
          refine gf_Re_34 C0 hw hR d_Re_toDeviation_50 ?_
          obtain ⟨s6, ho, h⟩ := ct_ob_some h
          refine ct_callVv C0 hw hl.1 (hR.F (f := 11) (by decide)) rfl (ct_giV wd_591 wd_592 wd_593 wd_6 wd_594) (fun sz => s_Fr_plus l g ws sz hR.rf (by decide) (by decide) ho) (nA := 1) (rm := rm_Fr_plus) (by decide +kernel) rfl ⟨rfl, rfl⟩ (by decide) (by decide) (As := [.ref (g.2.1 31)]) (rest := []) rfl (Nat.le_of_ble_eq_true rfl) d_Re_toDeviation_53 (fun ws1 H locs hw hp => ?_)
          have hR := hR.trans hp
          clear hp
          generalize ws1 = ws at hw hR
          refine lv_iinc (v := v2 + 1) (k := 2) (lv' := [(2, .int (v2 + 1)), (0, .ref (g.2.1 4)), (1, .int a1), (3, .int v3)]) hx hb d_Re_toDeviation_56 hl rfl rfl (by decide) rfl (fun ls hl => ?_)
          exact J59 ws H locs ls s6 (v2 + 1) v3 hw hR (lv_sub hl [1, 2, 0, 3] rfl) h
  unfold fn_Re_toDeviation at h
  obtain ⟨ws, hwe⟩ : ∃ z : va_W, z = ws0 := ⟨_, rfl⟩
  rw [← hwe] at hw
  have hR : cs_Rel g ws0 ws s := by rw [hwe]; exact hR
  clear hwe
  refine lv_iconst (v := 0) hx hb d_Re_toDeviation_0 (by decide) ?_
  refine lv_istore_n (lv' := [(2, .int 0), (0, .ref (g.2.1 4)), (1, .int a1)]) hx hb d_Re_toDeviation_1 rfl hl (by decide) rfl (fun ls hl => ?_)
  refine lv_aload_n hx hb d_Re_toDeviation_2 rfl (lv_at hl 1 rfl) ?_
  refine gf_Re_44 C0 hw hR d_Re_toDeviation_3 ?_
  refine lv_lconst (v := 0) hx hb d_Re_toDeviation_6 (by decide) ?_
  obtain ⟨s7, ho, h⟩ := ct_ob_some h
  refine ct_callVv C0 hw hl.1 (hR.F (f := 11) (by decide)) rfl (ct_giV wd_555 wd_556 wd_557 wd_6 wd_558) (fun sz => s_Fr_becomeWhole l g ws sz hR.rf (by decide) ho) (nA := 1) (rm := rm_Fr_becomeWhole) (by decide +kernel) rfl ⟨rfl, rfl⟩ (by decide) (by decide) (As := [.long 0]) (rest := []) rfl (Nat.le_of_ble_eq_true rfl) d_Re_toDeviation_7 (fun ws1 H locs hw hp => ?_)
  have hR := hR.trans hp
  clear hp
  generalize ws1 = ws at hw hR
  refine lv_iconst (v := 0) hx hb d_Re_toDeviation_10 (by decide) ?_
  refine lv_istore_n (lv' := [(3, .int 0), (2, .int 0), (0, .ref (g.2.1 4)), (1, .int a1)]) hx hb d_Re_toDeviation_11 rfl hl (by decide) rfl (fun ls hl => ?_)
  exact L12 200 ws H locs ls s7 0 0 hw hR (lv_sub hl [2, 3, 1, 0] rfl) h

