theorem d_La_pay_0 : decode c_La_pay 0 = .ok (.aload 5, 2) := by decide +kernel
theorem d_La_pay_2 : decode c_La_pay 2 = .ok (.iconst 0, 1) := by decide +kernel
theorem d_La_pay_3 : decode c_La_pay 3 = .ok (.aload_n 0, 1) := by decide +kernel
theorem d_La_pay_4 : decode c_La_pay 4 = .ok (.iload_n 1, 1) := by decide +kernel
theorem d_La_pay_5 : decode c_La_pay 5 = .ok (.iload_n 2, 1) := by decide +kernel
theorem d_La_pay_6 : decode c_La_pay 6 = .ok (.iload_n 3, 1) := by decide +kernel
theorem d_La_pay_7 : decode c_La_pay 7 = .ok (.iload 4, 2) := by decide +kernel
theorem d_La_pay_9 : decode c_La_pay 9 = .ok (.invokevirtual 7, 3) := by decide +kernel
theorem d_La_pay_12 : decode c_La_pay 12 = .ok (.i2l, 1) := by decide +kernel
theorem d_La_pay_13 : decode c_La_pay 13 = .ok (.lastore, 1) := by decide +kernel
theorem d_La_pay_14 : decode c_La_pay 14 = .ok (.goto 11, 3) := by decide +kernel
theorem d_La_pay_17 : decode c_La_pay 17 = .ok (.astore 6, 2) := by decide +kernel
theorem d_La_pay_19 : decode c_La_pay 19 = .ok (.iconst 1, 1) := by decide +kernel
theorem d_La_pay_20 : decode c_La_pay 20 = .ok (.ireturn, 1) := by decide +kernel
theorem d_La_pay_21 : decode c_La_pay 21 = .ok (.astore 6, 2) := by decide +kernel
theorem d_La_pay_23 : decode c_La_pay 23 = .ok (.iconst 2, 1) := by decide +kernel
theorem d_La_pay_24 : decode c_La_pay 24 = .ok (.ireturn, 1) := by decide +kernel
theorem d_La_pay_25 : decode c_La_pay 25 = .ok (.iconst 0, 1) := by decide +kernel
theorem d_La_pay_26 : decode c_La_pay 26 = .ok (.ireturn, 1) := by decide +kernel
abbrev hh_La_pay : List (Nat × Nat × Nat × Nat) := [((0), (14), (17), (13)), ((0), (14), (21), (15))]
abbrev rm_La_pay : Room := { frames := 10, cells := 4, slots := 24, locals := 181 }
set_option maxHeartbeats 4000000 in
set_option maxRecDepth 100000 in
theorem w_La_pay (l : Launch) (g : Gx) (ws0 : va_W) (sz : Nat) {s : CS} {a1 : Int32} {a2 : Int32} {a3 : Int32} {a4 : Int32} {o : (Nat × CS) ⊕ (Int32 × CS)} {out : Nat → Int64} (hR : cs_Rel g ws0 ws0 s) (h47 : ws0[47]? = some (g.2.1 47, .inl (g.2.2 2, 1, .inr (.inl out)))) (hl0 : l.stackTraces = false) (h : fn_CT_pay s a1 a2 a3 a4 = some o) (hk : ∀ k s1, o = .inl (k, s1) → k = 1 ∨ k = 2) : ct_MW l y_La_pay c_La_pay 7 hh_La_pay rm_La_pay g ws0 sz [.ref (g.2.1 0), .int a1, .int a2, .int a3, .int a4, .ref (g.2.1 47)] (wr_code o) (fun u => lw_W g ws0 u (wr_st o) (wr_outI o out)) 4 24 := by
  refine ct_startW (by decide +kernel) (Nat.le_of_ble_eq_true rfl) (fun p e sv m args below meth c ls Q A H locs C0 htab hret hl hw => ?_)
  have hx := C0.1
  have hb := C0.2.1
  have hl : lv_has ls 7 [(0, .ref (g.2.1 0)), (1, .int a1), (2, .int a2), (3, .int a3), (4, .int a4), (5, .ref (g.2.1 47))] := hl
  refine lv_aload hx hb d_La_pay_0 (lv_at hl 5 rfl) ?_
  refine lv_iconst (v := 0) hx hb d_La_pay_2 (by decide) ?_
  refine lv_aload_n hx hb d_La_pay_3 rfl (lv_at hl 0 rfl) ?_
  refine lv_iload_n hx hb d_La_pay_4 rfl (lv_at hl 1 rfl) ?_
  refine lv_iload_n hx hb d_La_pay_5 rfl (lv_at hl 2 rfl) ?_
  refine lv_iload_n hx hb d_La_pay_6 rfl (lv_at hl 3 rfl) ?_
  refine lv_iload hx hb d_La_pay_7 (lv_at hl 4 rfl) ?_
  refine ct_callVXi (ws := ws0) C0 hw hl.1 (q0 := 0) (hR.1 0 (by decide)) rfl (ct_giV wd_202 wd_203 wd_204 wd_1 wd_205) (fun sz => s_CT_pay l g ws0 sz hR hl0 h) (nA := 4) (rm := rm_CT_pay) (by decide +kernel) rfl ⟨rfl, rfl⟩ (by decide) (by decide) (As := [.int a1, .int a2, .int a3, .int a4]) (rest := [.int 0, .ref (g.2.1 47)]) rfl (Nat.le_of_ble_eq_true rfl) d_La_pay_9 (fun E ce q9 ws1 H locs k9 s9 hw ho9 hE hp h1 h2 h3 => ?_) (fun r9 ws1 H locs s9 hw ho9 hp => ?_)
  · rcases hk k9 s9 ho9 with rfl | rfl
    · refine wr_catch1 C0 htab wd_200 wd_214 (by decide) hE h1 h2 h3 ?_
      refine lv_astore (lv' := [(6, .ref q9), (0, .ref (g.2.1 0)), (1, .int a1), (2, .int a2), (3, .int a3), (4, .int a4), (5, .ref (g.2.1 47))]) hx hb d_La_pay_17 hl (by decide) rfl (fun ls hl => ?_)
      refine lv_iconst (v := 1) hx hb d_La_pay_19 (by decide) ?_
      subst ho9
      exact hret hw (lw_W_keep h47 hp) rfl (by decide) (by decide) d_La_pay_20
    · refine wr_catch2 C0 htab (by decide) wd_200 C0.2.2.2.2.2.1.2.2.2.2.2.2.2.1 wd_201 wd_293 (by decide) hE h1 h2 h3 ?_
      refine lv_astore (lv' := [(6, .ref q9), (0, .ref (g.2.1 0)), (1, .int a1), (2, .int a2), (3, .int a3), (4, .int a4), (5, .ref (g.2.1 47))]) hx hb d_La_pay_21 hl (by decide) rfl (fun ls hl => ?_)
      refine lv_iconst (v := 2) hx hb d_La_pay_23 (by decide) ?_
      subst ho9
      exact hret hw (lw_W_keep h47 hp) rfl (by decide) (by decide) d_La_pay_24
  refine lv_i2l hx hb d_La_pay_12 rfl ?_
  subst ho9
  refine va_last hx hb C0.2.2.2.2.2.1.1 hw.1 hw.2.1 hw.2.2 47 2 ((hp.2 47 (by decide)).trans h47) rfl (ct_inR_vp (by decide)) d_La_pay_13 (fun H locs hP hD hS => ?_)
  refine lv_goto hx hb (tgt := 25) d_La_pay_14 (by decide) ?_
  refine lv_iconst (v := 0) hx hb d_La_pay_25 (by decide) ?_
  exact hret ⟨hP, hD, hS⟩ (lw_W_put h47 hp) rfl (by decide) (by decide) d_La_pay_26
theorem d_La_estimate_0 : decode c_La_estimate 0 = .ok (.aload 5, 2) := by decide +kernel
theorem d_La_estimate_2 : decode c_La_estimate 2 = .ok (.iconst 0, 1) := by decide +kernel
theorem d_La_estimate_3 : decode c_La_estimate 3 = .ok (.aload_n 0, 1) := by decide +kernel
theorem d_La_estimate_4 : decode c_La_estimate 4 = .ok (.iload_n 1, 1) := by decide +kernel
theorem d_La_estimate_5 : decode c_La_estimate 5 = .ok (.iload_n 2, 1) := by decide +kernel
theorem d_La_estimate_6 : decode c_La_estimate 6 = .ok (.iload_n 3, 1) := by decide +kernel
theorem d_La_estimate_7 : decode c_La_estimate 7 = .ok (.iload 4, 2) := by decide +kernel
theorem d_La_estimate_9 : decode c_La_estimate 9 = .ok (.invokevirtual 17, 3) := by decide +kernel
theorem d_La_estimate_12 : decode c_La_estimate 12 = .ok (.i2l, 1) := by decide +kernel
theorem d_La_estimate_13 : decode c_La_estimate 13 = .ok (.lastore, 1) := by decide +kernel
theorem d_La_estimate_14 : decode c_La_estimate 14 = .ok (.goto 11, 3) := by decide +kernel
theorem d_La_estimate_17 : decode c_La_estimate 17 = .ok (.astore 6, 2) := by decide +kernel
theorem d_La_estimate_19 : decode c_La_estimate 19 = .ok (.iconst 1, 1) := by decide +kernel
theorem d_La_estimate_20 : decode c_La_estimate 20 = .ok (.ireturn, 1) := by decide +kernel
theorem d_La_estimate_21 : decode c_La_estimate 21 = .ok (.astore 6, 2) := by decide +kernel
theorem d_La_estimate_23 : decode c_La_estimate 23 = .ok (.iconst 2, 1) := by decide +kernel
theorem d_La_estimate_24 : decode c_La_estimate 24 = .ok (.ireturn, 1) := by decide +kernel
theorem d_La_estimate_25 : decode c_La_estimate 25 = .ok (.iconst 0, 1) := by decide +kernel
theorem d_La_estimate_26 : decode c_La_estimate 26 = .ok (.ireturn, 1) := by decide +kernel
abbrev hh_La_estimate : List (Nat × Nat × Nat × Nat) := [((0), (14), (17), (13)), ((0), (14), (21), (15))]
abbrev rm_La_estimate : Room := { frames := 10, cells := 4, slots := 24, locals := 181 }
set_option maxHeartbeats 4000000 in
set_option maxRecDepth 100000 in
theorem w_La_estimate (l : Launch) (g : Gx) (ws0 : va_W) (sz : Nat) {s : CS} {a1 : Int32} {a2 : Int32} {a3 : Int32} {a4 : Int32} {o : (Nat × CS) ⊕ (Int32 × CS)} {out : Nat → Int64} (hR : cs_Rel g ws0 ws0 s) (h47 : ws0[47]? = some (g.2.1 47, .inl (g.2.2 2, 1, .inr (.inl out)))) (hl0 : l.stackTraces = false) (h : fn_CT_estimate s a1 a2 a3 a4 = some o) (hk : ∀ k s1, o = .inl (k, s1) → k = 1 ∨ k = 2) : ct_MW l y_La_estimate c_La_estimate 7 hh_La_estimate rm_La_estimate g ws0 sz [.ref (g.2.1 0), .int a1, .int a2, .int a3, .int a4, .ref (g.2.1 47)] (wr_code o) (fun u => lw_W g ws0 u (wr_st o) (wr_outI o out)) 4 24 := by
  refine ct_startW (by decide +kernel) (Nat.le_of_ble_eq_true rfl) (fun p e sv m args below meth c ls Q A H locs C0 htab hret hl hw => ?_)
  have hx := C0.1
  have hb := C0.2.1
  have hl : lv_has ls 7 [(0, .ref (g.2.1 0)), (1, .int a1), (2, .int a2), (3, .int a3), (4, .int a4), (5, .ref (g.2.1 47))] := hl
  refine lv_aload hx hb d_La_estimate_0 (lv_at hl 5 rfl) ?_
  refine lv_iconst (v := 0) hx hb d_La_estimate_2 (by decide) ?_
  refine lv_aload_n hx hb d_La_estimate_3 rfl (lv_at hl 0 rfl) ?_
  refine lv_iload_n hx hb d_La_estimate_4 rfl (lv_at hl 1 rfl) ?_
  refine lv_iload_n hx hb d_La_estimate_5 rfl (lv_at hl 2 rfl) ?_
  refine lv_iload_n hx hb d_La_estimate_6 rfl (lv_at hl 3 rfl) ?_
  refine lv_iload hx hb d_La_estimate_7 (lv_at hl 4 rfl) ?_
  refine ct_callVXi (ws := ws0) C0 hw hl.1 (q0 := 0) (hR.1 0 (by decide)) rfl (ct_giV wd_347 wd_348 wd_349 wd_1 wd_350) (fun sz => s_CT_estimate l g ws0 sz hR hl0 h) (nA := 4) (rm := rm_CT_estimate) (by decide +kernel) rfl ⟨rfl, rfl⟩ (by decide) (by decide) (As := [.int a1, .int a2, .int a3, .int a4]) (rest := [.int 0, .ref (g.2.1 47)]) rfl (Nat.le_of_ble_eq_true rfl) d_La_estimate_9 (fun E ce q9 ws1 H locs k9 s9 hw ho9 hE hp h1 h2 h3 => ?_) (fun r9 ws1 H locs s9 hw ho9 hp => ?_)
  · rcases hk k9 s9 ho9 with rfl | rfl
    · refine wr_catch1 C0 htab wd_200 wd_214 (by decide) hE h1 h2 h3 ?_
      refine lv_astore (lv' := [(6, .ref q9), (0, .ref (g.2.1 0)), (1, .int a1), (2, .int a2), (3, .int a3), (4, .int a4), (5, .ref (g.2.1 47))]) hx hb d_La_estimate_17 hl (by decide) rfl (fun ls hl => ?_)
      refine lv_iconst (v := 1) hx hb d_La_estimate_19 (by decide) ?_
      subst ho9
      exact hret hw (lw_W_keep h47 hp) rfl (by decide) (by decide) d_La_estimate_20
    · refine wr_catch2 C0 htab (by decide) wd_200 C0.2.2.2.2.2.1.2.2.2.2.2.2.2.1 wd_201 wd_293 (by decide) hE h1 h2 h3 ?_
      refine lv_astore (lv' := [(6, .ref q9), (0, .ref (g.2.1 0)), (1, .int a1), (2, .int a2), (3, .int a3), (4, .int a4), (5, .ref (g.2.1 47))]) hx hb d_La_estimate_21 hl (by decide) rfl (fun ls hl => ?_)
      refine lv_iconst (v := 2) hx hb d_La_estimate_23 (by decide) ?_
      subst ho9
      exact hret hw (lw_W_keep h47 hp) rfl (by decide) (by decide) d_La_estimate_24
  refine lv_i2l hx hb d_La_estimate_12 rfl ?_
  subst ho9
  refine va_last hx hb C0.2.2.2.2.2.1.1 hw.1 hw.2.1 hw.2.2 47 2 ((hp.2 47 (by decide)).trans h47) rfl (ct_inR_vp (by decide)) d_La_estimate_13 (fun H locs hP hD hS => ?_)
  refine lv_goto hx hb (tgt := 25) d_La_estimate_14 (by decide) ?_
  refine lv_iconst (v := 0) hx hb d_La_estimate_25 (by decide) ?_
  exact hret ⟨hP, hD, hS⟩ (lw_W_put h47 hp) rfl (by decide) (by decide) d_La_estimate_26
theorem d_La_strike_0 : decode c_La_strike 0 = .ok (.aload_n 2, 1) := by decide +kernel
theorem d_La_strike_1 : decode c_La_strike 1 = .ok (.iconst 0, 1) := by decide +kernel
theorem d_La_strike_2 : decode c_La_strike 2 = .ok (.aload_n 0, 1) := by decide +kernel
theorem d_La_strike_3 : decode c_La_strike 3 = .ok (.iload_n 1, 1) := by decide +kernel
theorem d_La_strike_4 : decode c_La_strike 4 = .ok (.invokevirtual 20, 3) := by decide +kernel
theorem d_La_strike_7 : decode c_La_strike 7 = .ok (.i2l, 1) := by decide +kernel
theorem d_La_strike_8 : decode c_La_strike 8 = .ok (.lastore, 1) := by decide +kernel
theorem d_La_strike_9 : decode c_La_strike 9 = .ok (.goto 9, 3) := by decide +kernel
theorem d_La_strike_12 : decode c_La_strike 12 = .ok (.astore_n 3, 1) := by decide +kernel
theorem d_La_strike_13 : decode c_La_strike 13 = .ok (.iconst 1, 1) := by decide +kernel
theorem d_La_strike_14 : decode c_La_strike 14 = .ok (.ireturn, 1) := by decide +kernel
theorem d_La_strike_15 : decode c_La_strike 15 = .ok (.astore_n 3, 1) := by decide +kernel
theorem d_La_strike_16 : decode c_La_strike 16 = .ok (.iconst 2, 1) := by decide +kernel
theorem d_La_strike_17 : decode c_La_strike 17 = .ok (.ireturn, 1) := by decide +kernel
theorem d_La_strike_18 : decode c_La_strike 18 = .ok (.iconst 0, 1) := by decide +kernel
theorem d_La_strike_19 : decode c_La_strike 19 = .ok (.ireturn, 1) := by decide +kernel
abbrev hh_La_strike : List (Nat × Nat × Nat × Nat) := [((0), (9), (12), (13)), ((0), (9), (15), (15))]
abbrev rm_La_strike : Room := { frames := 9, cells := 2, slots := 12, locals := 152 }
set_option maxHeartbeats 4000000 in
set_option maxRecDepth 100000 in
theorem w_La_strike (l : Launch) (g : Gx) (ws0 : va_W) (sz : Nat) {s : CS} {a1 : Int32} {o : (Nat × CS) ⊕ (Int32 × CS)} {out : Nat → Int64} (hR : cs_Rel g ws0 ws0 s) (h47 : ws0[47]? = some (g.2.1 47, .inl (g.2.2 2, 1, .inr (.inl out)))) (hl0 : l.stackTraces = false) (h : fn_CT_strike s a1 = some o) (hk : ∀ k s1, o = .inl (k, s1) → k = 1 ∨ k = 2) : ct_MW l y_La_strike c_La_strike 4 hh_La_strike rm_La_strike g ws0 sz [.ref (g.2.1 0), .int a1, .ref (g.2.1 47)] (wr_code o) (fun u => lw_W g ws0 u (wr_st o) (wr_outI o out)) 2 12 := by
  refine ct_startW (by decide +kernel) (Nat.le_of_ble_eq_true rfl) (fun p e sv m args below meth c ls Q A H locs C0 htab hret hl hw => ?_)
  have hx := C0.1
  have hb := C0.2.1
  have hl : lv_has ls 4 [(0, .ref (g.2.1 0)), (1, .int a1), (2, .ref (g.2.1 47))] := hl
  refine lv_aload_n hx hb d_La_strike_0 rfl (lv_at hl 2 rfl) ?_
  refine lv_iconst (v := 0) hx hb d_La_strike_1 (by decide) ?_
  refine lv_aload_n hx hb d_La_strike_2 rfl (lv_at hl 0 rfl) ?_
  refine lv_iload_n hx hb d_La_strike_3 rfl (lv_at hl 1 rfl) ?_
  refine ct_callVXi (ws := ws0) C0 hw hl.1 (q0 := 0) (hR.1 0 (by decide)) rfl (ct_giV wd_354 wd_355 wd_356 wd_1 wd_357) (fun sz => s_CT_strike l g ws0 sz hR hl0 h) (nA := 1) (rm := rm_CT_strike) (by decide +kernel) rfl ⟨rfl, rfl⟩ (by decide) (by decide) (As := [.int a1]) (rest := [.int 0, .ref (g.2.1 47)]) rfl (Nat.le_of_ble_eq_true rfl) d_La_strike_4 (fun E ce q9 ws1 H locs k9 s9 hw ho9 hE hp h1 h2 h3 => ?_) (fun r9 ws1 H locs s9 hw ho9 hp => ?_)
  · rcases hk k9 s9 ho9 with rfl | rfl
    · refine wr_catch1 C0 htab wd_200 wd_214 (by decide) hE h1 h2 h3 ?_
      refine lv_astore_n (lv' := [(3, .ref q9), (0, .ref (g.2.1 0)), (1, .int a1), (2, .ref (g.2.1 47))]) hx hb d_La_strike_12 rfl hl (by decide) rfl (fun ls hl => ?_)
      refine lv_iconst (v := 1) hx hb d_La_strike_13 (by decide) ?_
      subst ho9
      exact hret hw (lw_W_keep h47 hp) rfl (by decide) (by decide) d_La_strike_14
    · refine wr_catch2 C0 htab (by decide) wd_200 C0.2.2.2.2.2.1.2.2.2.2.2.2.2.1 wd_201 wd_293 (by decide) hE h1 h2 h3 ?_
      refine lv_astore_n (lv' := [(3, .ref q9), (0, .ref (g.2.1 0)), (1, .int a1), (2, .ref (g.2.1 47))]) hx hb d_La_strike_15 rfl hl (by decide) rfl (fun ls hl => ?_)
      refine lv_iconst (v := 2) hx hb d_La_strike_16 (by decide) ?_
      subst ho9
      exact hret hw (lw_W_keep h47 hp) rfl (by decide) (by decide) d_La_strike_17
  refine lv_i2l hx hb d_La_strike_7 rfl ?_
  subst ho9
  refine va_last hx hb C0.2.2.2.2.2.1.1 hw.1 hw.2.1 hw.2.2 47 2 ((hp.2 47 (by decide)).trans h47) rfl (ct_inR_vp (by decide)) d_La_strike_8 (fun H locs hP hD hS => ?_)
  refine lv_goto hx hb (tgt := 18) d_La_strike_9 (by decide) ?_
  refine lv_iconst (v := 0) hx hb d_La_strike_18 (by decide) ?_
  exact hret ⟨hP, hD, hS⟩ (lw_W_put h47 hp) rfl (by decide) (by decide) d_La_strike_19
theorem d_La_move_0 : decode c_La_move 0 = .ok (.aload_n 0, 1) := by decide +kernel
theorem d_La_move_1 : decode c_La_move 1 = .ok (.iload_n 1, 1) := by decide +kernel
theorem d_La_move_2 : decode c_La_move 2 = .ok (.iload_n 2, 1) := by decide +kernel
theorem d_La_move_3 : decode c_La_move 3 = .ok (.iload_n 3, 1) := by decide +kernel
theorem d_La_move_4 : decode c_La_move 4 = .ok (.invokevirtual 24, 3) := by decide +kernel
theorem d_La_move_7 : decode c_La_move 7 = .ok (.goto 11, 3) := by decide +kernel
theorem d_La_move_10 : decode c_La_move 10 = .ok (.astore 4, 2) := by decide +kernel
theorem d_La_move_12 : decode c_La_move 12 = .ok (.iconst 1, 1) := by decide +kernel
theorem d_La_move_13 : decode c_La_move 13 = .ok (.ireturn, 1) := by decide +kernel
theorem d_La_move_14 : decode c_La_move 14 = .ok (.astore 4, 2) := by decide +kernel
theorem d_La_move_16 : decode c_La_move 16 = .ok (.iconst 2, 1) := by decide +kernel
theorem d_La_move_17 : decode c_La_move 17 = .ok (.ireturn, 1) := by decide +kernel
theorem d_La_move_18 : decode c_La_move 18 = .ok (.iconst 0, 1) := by decide +kernel
theorem d_La_move_19 : decode c_La_move 19 = .ok (.ireturn, 1) := by decide +kernel
abbrev hh_La_move : List (Nat × Nat × Nat × Nat) := [((0), (7), (10), (13)), ((0), (7), (14), (15))]
abbrev rm_La_move : Room := { frames := 9, cells := 3, slots := 18, locals := 154 }
set_option maxHeartbeats 4000000 in
set_option maxRecDepth 100000 in
theorem w_La_move (l : Launch) (g : Gx) (ws0 : va_W) (sz : Nat) {s : CS} {a1 : Int32} {a2 : Int32} {a3 : Int32} {o : (Nat × CS) ⊕ CS} {out : Nat → Int64} (hR : cs_Rel g ws0 ws0 s) (h47 : ws0[47]? = some (g.2.1 47, .inl (g.2.2 2, 1, .inr (.inl out)))) (hl0 : l.stackTraces = false) (h : fn_CT_move s a1 a2 a3 = some o) (hk : ∀ k s1, o = .inl (k, s1) → k = 1 ∨ k = 2) : ct_MW l y_La_move c_La_move 5 hh_La_move rm_La_move g ws0 sz [.ref (g.2.1 0), .int a1, .int a2, .int a3] (wr_code o) (fun u => lw_W g ws0 u (wr_stv o) out) 3 18 := by
  refine ct_startW (by decide +kernel) (Nat.le_of_ble_eq_true rfl) (fun p e sv m args below meth c ls Q A H locs C0 htab hret hl hw => ?_)
  have hx := C0.1
  have hb := C0.2.1
  have hl : lv_has ls 5 [(0, .ref (g.2.1 0)), (1, .int a1), (2, .int a2), (3, .int a3)] := hl
  refine lv_aload_n hx hb d_La_move_0 rfl (lv_at hl 0 rfl) ?_
  refine lv_iload_n hx hb d_La_move_1 rfl (lv_at hl 1 rfl) ?_
  refine lv_iload_n hx hb d_La_move_2 rfl (lv_at hl 2 rfl) ?_
  refine lv_iload_n hx hb d_La_move_3 rfl (lv_at hl 3 rfl) ?_
  refine ct_callVXv (ws := ws0) C0 hw hl.1 (q0 := 0) (hR.1 0 (by decide)) rfl (ct_giV wd_370 wd_371 wd_372 wd_1 wd_373) (fun sz => s_CT_move l g ws0 sz hR hl0 h) (nA := 3) (rm := rm_CT_move) (by decide +kernel) rfl ⟨rfl, rfl⟩ (by decide) (by decide) (As := [.int a1, .int a2, .int a3]) (rest := []) rfl (Nat.le_of_ble_eq_true rfl) d_La_move_4 (fun E ce q9 ws1 H locs k9 s9 hw ho9 hE hp h1 h2 h3 => ?_) (fun ws1 H locs s9 hw ho9 hp => ?_)
  · rcases hk k9 s9 ho9 with rfl | rfl
    · refine wr_catch1 C0 htab wd_200 wd_214 (by decide) hE h1 h2 h3 ?_
      refine lv_astore (lv' := [(4, .ref q9), (0, .ref (g.2.1 0)), (1, .int a1), (2, .int a2), (3, .int a3)]) hx hb d_La_move_10 hl (by decide) rfl (fun ls hl => ?_)
      refine lv_iconst (v := 1) hx hb d_La_move_12 (by decide) ?_
      subst ho9
      exact hret hw (lw_W_keep h47 hp) rfl (by decide) (by decide) d_La_move_13
    · refine wr_catch2 C0 htab (by decide) wd_200 C0.2.2.2.2.2.1.2.2.2.2.2.2.2.1 wd_201 wd_293 (by decide) hE h1 h2 h3 ?_
      refine lv_astore (lv' := [(4, .ref q9), (0, .ref (g.2.1 0)), (1, .int a1), (2, .int a2), (3, .int a3)]) hx hb d_La_move_14 hl (by decide) rfl (fun ls hl => ?_)
      refine lv_iconst (v := 2) hx hb d_La_move_16 (by decide) ?_
      subst ho9
      exact hret hw (lw_W_keep h47 hp) rfl (by decide) (by decide) d_La_move_17
  subst ho9
  refine lv_goto hx hb (tgt := 18) d_La_move_7 (by decide) ?_
  refine lv_iconst (v := 0) hx hb d_La_move_18 (by decide) ?_
  exact hret hw (lw_W_keep h47 hp) rfl (by decide) (by decide) d_La_move_19
theorem d_La_premium_0 : decode c_La_premium 0 = .ok (.aload_n 0, 1) := by decide +kernel
theorem d_La_premium_1 : decode c_La_premium 1 = .ok (.iload_n 1, 1) := by decide +kernel
theorem d_La_premium_2 : decode c_La_premium 2 = .ok (.iload_n 2, 1) := by decide +kernel
theorem d_La_premium_3 : decode c_La_premium 3 = .ok (.iload_n 3, 1) := by decide +kernel
theorem d_La_premium_4 : decode c_La_premium 4 = .ok (.invokevirtual 28, 3) := by decide +kernel
theorem d_La_premium_7 : decode c_La_premium 7 = .ok (.goto 7, 3) := by decide +kernel
theorem d_La_premium_10 : decode c_La_premium 10 = .ok (.astore 4, 2) := by decide +kernel
theorem d_La_premium_12 : decode c_La_premium 12 = .ok (.iconst 1, 1) := by decide +kernel
theorem d_La_premium_13 : decode c_La_premium 13 = .ok (.ireturn, 1) := by decide +kernel
theorem d_La_premium_14 : decode c_La_premium 14 = .ok (.iconst 0, 1) := by decide +kernel
theorem d_La_premium_15 : decode c_La_premium 15 = .ok (.ireturn, 1) := by decide +kernel
abbrev hh_La_premium : List (Nat × Nat × Nat × Nat) := [((0), (7), (10), (13))]
abbrev rm_La_premium : Room := { frames := 8, cells := 1, slots := 6, locals := 133 }
set_option maxHeartbeats 4000000 in
set_option maxRecDepth 100000 in
theorem w_La_premium (l : Launch) (g : Gx) (ws0 : va_W) (sz : Nat) {s : CS} {a1 : Int32} {a2 : Int32} {a3 : Int32} {o : (Nat × CS) ⊕ CS} {out : Nat → Int64} (hR : cs_Rel g ws0 ws0 s) (h47 : ws0[47]? = some (g.2.1 47, .inl (g.2.2 2, 1, .inr (.inl out)))) (hl0 : l.stackTraces = false) (h : fn_CT_premium s a1 a2 a3 = some o) (hk : ∀ k s1, o = .inl (k, s1) → k = 1) : ct_MW l y_La_premium c_La_premium 5 hh_La_premium rm_La_premium g ws0 sz [.ref (g.2.1 0), .int a1, .int a2, .int a3] (wr_code o) (fun u => lw_W g ws0 u (wr_stv o) out) 1 6 := by
  refine ct_startW (by decide +kernel) (Nat.le_of_ble_eq_true rfl) (fun p e sv m args below meth c ls Q A H locs C0 htab hret hl hw => ?_)
  have hx := C0.1
  have hb := C0.2.1
  have hl : lv_has ls 5 [(0, .ref (g.2.1 0)), (1, .int a1), (2, .int a2), (3, .int a3)] := hl
  refine lv_aload_n hx hb d_La_premium_0 rfl (lv_at hl 0 rfl) ?_
  refine lv_iload_n hx hb d_La_premium_1 rfl (lv_at hl 1 rfl) ?_
  refine lv_iload_n hx hb d_La_premium_2 rfl (lv_at hl 2 rfl) ?_
  refine lv_iload_n hx hb d_La_premium_3 rfl (lv_at hl 3 rfl) ?_
  refine ct_callVXv (ws := ws0) C0 hw hl.1 (q0 := 0) (hR.1 0 (by decide)) rfl (ct_giV wd_377 wd_378 wd_379 wd_1 wd_380) (fun sz => s_CT_premium l g ws0 sz hR hl0 h) (nA := 3) (rm := rm_CT_premium) (by decide +kernel) rfl ⟨rfl, rfl⟩ (by decide) (by decide) (As := [.int a1, .int a2, .int a3]) (rest := []) rfl (Nat.le_of_ble_eq_true rfl) d_La_premium_4 (fun E ce q9 ws1 H locs k9 s9 hw ho9 hE hp h1 h2 h3 => ?_) (fun ws1 H locs s9 hw ho9 hp => ?_)
  · rcases hk k9 s9 ho9 with rfl
    · refine wr_catch1 C0 htab wd_200 wd_214 (by decide) hE h1 h2 h3 ?_
      refine lv_astore (lv' := [(4, .ref q9), (0, .ref (g.2.1 0)), (1, .int a1), (2, .int a2), (3, .int a3)]) hx hb d_La_premium_10 hl (by decide) rfl (fun ls hl => ?_)
      refine lv_iconst (v := 1) hx hb d_La_premium_12 (by decide) ?_
      subst ho9
      exact hret hw (lw_W_keep h47 hp) rfl (by decide) (by decide) d_La_premium_13
  subst ho9
  refine lv_goto hx hb (tgt := 14) d_La_premium_7 (by decide) ?_
  refine lv_iconst (v := 0) hx hb d_La_premium_14 (by decide) ?_
  exact hret hw (lw_W_keep h47 hp) rfl (by decide) (by decide) d_La_premium_15
theorem d_La_ratio_0 : decode c_La_ratio 0 = .ok (.aload_n 0, 1) := by decide +kernel
theorem d_La_ratio_1 : decode c_La_ratio 1 = .ok (.iload_n 1, 1) := by decide +kernel
theorem d_La_ratio_2 : decode c_La_ratio 2 = .ok (.iload_n 2, 1) := by decide +kernel
theorem d_La_ratio_3 : decode c_La_ratio 3 = .ok (.iload_n 3, 1) := by decide +kernel
theorem d_La_ratio_4 : decode c_La_ratio 4 = .ok (.invokevirtual 31, 3) := by decide +kernel
theorem d_La_ratio_7 : decode c_La_ratio 7 = .ok (.goto 7, 3) := by decide +kernel
theorem d_La_ratio_10 : decode c_La_ratio 10 = .ok (.astore 4, 2) := by decide +kernel
theorem d_La_ratio_12 : decode c_La_ratio 12 = .ok (.iconst 1, 1) := by decide +kernel
theorem d_La_ratio_13 : decode c_La_ratio 13 = .ok (.ireturn, 1) := by decide +kernel
theorem d_La_ratio_14 : decode c_La_ratio 14 = .ok (.iconst 0, 1) := by decide +kernel
theorem d_La_ratio_15 : decode c_La_ratio 15 = .ok (.ireturn, 1) := by decide +kernel
abbrev hh_La_ratio : List (Nat × Nat × Nat × Nat) := [((0), (7), (10), (13))]
abbrev rm_La_ratio : Room := { frames := 8, cells := 2, slots := 12, locals := 133 }
set_option maxHeartbeats 4000000 in
set_option maxRecDepth 100000 in
theorem w_La_ratio (l : Launch) (g : Gx) (ws0 : va_W) (sz : Nat) {s : CS} {a1 : Int32} {a2 : Int32} {a3 : Int32} {o : (Nat × CS) ⊕ CS} {out : Nat → Int64} (hR : cs_Rel g ws0 ws0 s) (h47 : ws0[47]? = some (g.2.1 47, .inl (g.2.2 2, 1, .inr (.inl out)))) (hl0 : l.stackTraces = false) (h : fn_CT_ratio s a1 a2 a3 = some o) (hk : ∀ k s1, o = .inl (k, s1) → k = 1) : ct_MW l y_La_ratio c_La_ratio 5 hh_La_ratio rm_La_ratio g ws0 sz [.ref (g.2.1 0), .int a1, .int a2, .int a3] (wr_code o) (fun u => lw_W g ws0 u (wr_stv o) out) 2 12 := by
  refine ct_startW (by decide +kernel) (Nat.le_of_ble_eq_true rfl) (fun p e sv m args below meth c ls Q A H locs C0 htab hret hl hw => ?_)
  have hx := C0.1
  have hb := C0.2.1
  have hl : lv_has ls 5 [(0, .ref (g.2.1 0)), (1, .int a1), (2, .int a2), (3, .int a3)] := hl
  refine lv_aload_n hx hb d_La_ratio_0 rfl (lv_at hl 0 rfl) ?_
  refine lv_iload_n hx hb d_La_ratio_1 rfl (lv_at hl 1 rfl) ?_
  refine lv_iload_n hx hb d_La_ratio_2 rfl (lv_at hl 2 rfl) ?_
  refine lv_iload_n hx hb d_La_ratio_3 rfl (lv_at hl 3 rfl) ?_
  refine ct_callVXv (ws := ws0) C0 hw hl.1 (q0 := 0) (hR.1 0 (by decide)) rfl (ct_giV wd_384 wd_385 wd_386 wd_1 wd_387) (fun sz => s_CT_ratio l g ws0 sz hR hl0 h) (nA := 3) (rm := rm_CT_ratio) (by decide +kernel) rfl ⟨rfl, rfl⟩ (by decide) (by decide) (As := [.int a1, .int a2, .int a3]) (rest := []) rfl (Nat.le_of_ble_eq_true rfl) d_La_ratio_4 (fun E ce q9 ws1 H locs k9 s9 hw ho9 hE hp h1 h2 h3 => ?_) (fun ws1 H locs s9 hw ho9 hp => ?_)
  · rcases hk k9 s9 ho9 with rfl
    · refine wr_catch1 C0 htab wd_200 wd_214 (by decide) hE h1 h2 h3 ?_
      refine lv_astore (lv' := [(4, .ref q9), (0, .ref (g.2.1 0)), (1, .int a1), (2, .int a2), (3, .int a3)]) hx hb d_La_ratio_10 hl (by decide) rfl (fun ls hl => ?_)
      refine lv_iconst (v := 1) hx hb d_La_ratio_12 (by decide) ?_
      subst ho9
      exact hret hw (lw_W_keep h47 hp) rfl (by decide) (by decide) d_La_ratio_13
  subst ho9
  refine lv_goto hx hb (tgt := 14) d_La_ratio_7 (by decide) ?_
  refine lv_iconst (v := 0) hx hb d_La_ratio_14 (by decide) ?_
  exact hret hw (lw_W_keep h47 hp) rfl (by decide) (by decide) d_La_ratio_15
theorem d_La_build_0 : decode c_La_build 0 = .ok (.aload_n 0, 1) := by decide +kernel
theorem d_La_build_1 : decode c_La_build 1 = .ok (.iload_n 1, 1) := by decide +kernel
theorem d_La_build_2 : decode c_La_build 2 = .ok (.iload_n 2, 1) := by decide +kernel
theorem d_La_build_3 : decode c_La_build 3 = .ok (.iload_n 3, 1) := by decide +kernel
theorem d_La_build_4 : decode c_La_build 4 = .ok (.iload 4, 2) := by decide +kernel
theorem d_La_build_6 : decode c_La_build 6 = .ok (.invokevirtual 34, 3) := by decide +kernel
theorem d_La_build_9 : decode c_La_build 9 = .ok (.goto 7, 3) := by decide +kernel
theorem d_La_build_12 : decode c_La_build 12 = .ok (.astore 5, 2) := by decide +kernel
theorem d_La_build_14 : decode c_La_build 14 = .ok (.iconst 1, 1) := by decide +kernel
theorem d_La_build_15 : decode c_La_build 15 = .ok (.ireturn, 1) := by decide +kernel
theorem d_La_build_16 : decode c_La_build 16 = .ok (.iconst 0, 1) := by decide +kernel
theorem d_La_build_17 : decode c_La_build 17 = .ok (.ireturn, 1) := by decide +kernel
abbrev hh_La_build : List (Nat × Nat × Nat × Nat) := [((0), (9), (12), (13))]
abbrev rm_La_build : Room := { frames := 8, cells := 1, slots := 6, locals := 137 }
set_option maxHeartbeats 4000000 in
set_option maxRecDepth 100000 in
theorem w_La_build (l : Launch) (g : Gx) (ws0 : va_W) (sz : Nat) {s : CS} {a1 : Int32} {a2 : Int32} {a3 : Int32} {a4 : Int32} {o : (Nat × CS) ⊕ CS} {out : Nat → Int64} (hR : cs_Rel g ws0 ws0 s) (h47 : ws0[47]? = some (g.2.1 47, .inl (g.2.2 2, 1, .inr (.inl out)))) (hl0 : l.stackTraces = false) (h : fn_CT_build s a1 a2 a3 a4 = some o) (hk : ∀ k s1, o = .inl (k, s1) → k = 1) : ct_MW l y_La_build c_La_build 6 hh_La_build rm_La_build g ws0 sz [.ref (g.2.1 0), .int a1, .int a2, .int a3, .int a4] (wr_code o) (fun u => lw_W g ws0 u (wr_stv o) out) 1 6 := by
  refine ct_startW (by decide +kernel) (Nat.le_of_ble_eq_true rfl) (fun p e sv m args below meth c ls Q A H locs C0 htab hret hl hw => ?_)
  have hx := C0.1
  have hb := C0.2.1
  have hl : lv_has ls 6 [(0, .ref (g.2.1 0)), (1, .int a1), (2, .int a2), (3, .int a3), (4, .int a4)] := hl
  refine lv_aload_n hx hb d_La_build_0 rfl (lv_at hl 0 rfl) ?_
  refine lv_iload_n hx hb d_La_build_1 rfl (lv_at hl 1 rfl) ?_
  refine lv_iload_n hx hb d_La_build_2 rfl (lv_at hl 2 rfl) ?_
  refine lv_iload_n hx hb d_La_build_3 rfl (lv_at hl 3 rfl) ?_
  refine lv_iload hx hb d_La_build_4 (lv_at hl 4 rfl) ?_
  refine ct_callVXv (ws := ws0) C0 hw hl.1 (q0 := 0) (hR.1 0 (by decide)) rfl (ct_giV wd_408 wd_409 wd_410 wd_1 wd_411) (fun sz => s_CT_build l g ws0 sz hR hl0 h) (nA := 4) (rm := rm_CT_build) (by decide +kernel) rfl ⟨rfl, rfl⟩ (by decide) (by decide) (As := [.int a1, .int a2, .int a3, .int a4]) (rest := []) rfl (Nat.le_of_ble_eq_true rfl) d_La_build_6 (fun E ce q9 ws1 H locs k9 s9 hw ho9 hE hp h1 h2 h3 => ?_) (fun ws1 H locs s9 hw ho9 hp => ?_)
  · rcases hk k9 s9 ho9 with rfl
    · refine wr_catch1 C0 htab wd_200 wd_214 (by decide) hE h1 h2 h3 ?_
      refine lv_astore (lv' := [(5, .ref q9), (0, .ref (g.2.1 0)), (1, .int a1), (2, .int a2), (3, .int a3), (4, .int a4)]) hx hb d_La_build_12 hl (by decide) rfl (fun ls hl => ?_)
      refine lv_iconst (v := 1) hx hb d_La_build_14 (by decide) ?_
      subst ho9
      exact hret hw (lw_W_keep h47 hp) rfl (by decide) (by decide) d_La_build_15
  subst ho9
  refine lv_goto hx hb (tgt := 16) d_La_build_9 (by decide) ?_
  refine lv_iconst (v := 0) hx hb d_La_build_16 (by decide) ?_
  exact hret hw (lw_W_keep h47 hp) rfl (by decide) (by decide) d_La_build_17
theorem d_La_cell_0 : decode c_La_cell 0 = .ok (.aload_n 3, 1) := by decide +kernel
theorem d_La_cell_1 : decode c_La_cell 1 = .ok (.iconst 0, 1) := by decide +kernel
theorem d_La_cell_2 : decode c_La_cell 2 = .ok (.aload_n 0, 1) := by decide +kernel
theorem d_La_cell_3 : decode c_La_cell 3 = .ok (.iload_n 1, 1) := by decide +kernel
theorem d_La_cell_4 : decode c_La_cell 4 = .ok (.iload_n 2, 1) := by decide +kernel
theorem d_La_cell_5 : decode c_La_cell 5 = .ok (.invokevirtual 38, 3) := by decide +kernel
theorem d_La_cell_8 : decode c_La_cell 8 = .ok (.i2l, 1) := by decide +kernel
theorem d_La_cell_9 : decode c_La_cell 9 = .ok (.lastore, 1) := by decide +kernel
theorem d_La_cell_10 : decode c_La_cell 10 = .ok (.goto 7, 3) := by decide +kernel
theorem d_La_cell_13 : decode c_La_cell 13 = .ok (.astore 4, 2) := by decide +kernel
theorem d_La_cell_15 : decode c_La_cell 15 = .ok (.iconst 1, 1) := by decide +kernel
theorem d_La_cell_16 : decode c_La_cell 16 = .ok (.ireturn, 1) := by decide +kernel
theorem d_La_cell_17 : decode c_La_cell 17 = .ok (.iconst 0, 1) := by decide +kernel
theorem d_La_cell_18 : decode c_La_cell 18 = .ok (.ireturn, 1) := by decide +kernel
abbrev hh_La_cell : List (Nat × Nat × Nat × Nat) := [((0), (10), (13), (13))]
abbrev rm_La_cell : Room := { frames := 8, cells := 1, slots := 6, locals := 132 }
set_option maxHeartbeats 4000000 in
set_option maxRecDepth 100000 in
theorem w_La_cell (l : Launch) (g : Gx) (ws0 : va_W) (sz : Nat) {s : CS} {a1 : Int32} {a2 : Int32} {o : (Nat × CS) ⊕ (Int32 × CS)} {out : Nat → Int64} (hR : cs_Rel g ws0 ws0 s) (h47 : ws0[47]? = some (g.2.1 47, .inl (g.2.2 2, 1, .inr (.inl out)))) (hl0 : l.stackTraces = false) (h : fn_CT_cell s a1 a2 = some o) (hk : ∀ k s1, o = .inl (k, s1) → k = 1) : ct_MW l y_La_cell c_La_cell 5 hh_La_cell rm_La_cell g ws0 sz [.ref (g.2.1 0), .int a1, .int a2, .ref (g.2.1 47)] (wr_code o) (fun u => lw_W g ws0 u (wr_st o) (wr_outI o out)) 1 6 := by
  refine ct_startW (by decide +kernel) (Nat.le_of_ble_eq_true rfl) (fun p e sv m args below meth c ls Q A H locs C0 htab hret hl hw => ?_)
  have hx := C0.1
  have hb := C0.2.1
  have hl : lv_has ls 5 [(0, .ref (g.2.1 0)), (1, .int a1), (2, .int a2), (3, .ref (g.2.1 47))] := hl
  refine lv_aload_n hx hb d_La_cell_0 rfl (lv_at hl 3 rfl) ?_
  refine lv_iconst (v := 0) hx hb d_La_cell_1 (by decide) ?_
  refine lv_aload_n hx hb d_La_cell_2 rfl (lv_at hl 0 rfl) ?_
  refine lv_iload_n hx hb d_La_cell_3 rfl (lv_at hl 1 rfl) ?_
  refine lv_iload_n hx hb d_La_cell_4 rfl (lv_at hl 2 rfl) ?_
  refine ct_callVXi (ws := ws0) C0 hw hl.1 (q0 := 0) (hR.1 0 (by decide)) rfl (ct_giV wd_419 wd_420 wd_421 wd_1 wd_422) (fun sz => s_CT_cell l g ws0 sz hR hl0 h) (nA := 2) (rm := rm_CT_cell) (by decide +kernel) rfl ⟨rfl, rfl⟩ (by decide) (by decide) (As := [.int a1, .int a2]) (rest := [.int 0, .ref (g.2.1 47)]) rfl (Nat.le_of_ble_eq_true rfl) d_La_cell_5 (fun E ce q9 ws1 H locs k9 s9 hw ho9 hE hp h1 h2 h3 => ?_) (fun r9 ws1 H locs s9 hw ho9 hp => ?_)
  · rcases hk k9 s9 ho9 with rfl
    · refine wr_catch1 C0 htab wd_200 wd_214 (by decide) hE h1 h2 h3 ?_
      refine lv_astore (lv' := [(4, .ref q9), (0, .ref (g.2.1 0)), (1, .int a1), (2, .int a2), (3, .ref (g.2.1 47))]) hx hb d_La_cell_13 hl (by decide) rfl (fun ls hl => ?_)
      refine lv_iconst (v := 1) hx hb d_La_cell_15 (by decide) ?_
      subst ho9
      exact hret hw (lw_W_keep h47 hp) rfl (by decide) (by decide) d_La_cell_16
  refine lv_i2l hx hb d_La_cell_8 rfl ?_
  subst ho9
  refine va_last hx hb C0.2.2.2.2.2.1.1 hw.1 hw.2.1 hw.2.2 47 2 ((hp.2 47 (by decide)).trans h47) rfl (ct_inR_vp (by decide)) d_La_cell_9 (fun H locs hP hD hS => ?_)
  refine lv_goto hx hb (tgt := 17) d_La_cell_10 (by decide) ?_
  refine lv_iconst (v := 0) hx hb d_La_cell_17 (by decide) ?_
  exact hret ⟨hP, hD, hS⟩ (lw_W_put h47 hp) rfl (by decide) (by decide) d_La_cell_18
theorem d_La_leave_0 : decode c_La_leave 0 = .ok (.aload 4, 2) := by decide +kernel
theorem d_La_leave_2 : decode c_La_leave 2 = .ok (.iconst 0, 1) := by decide +kernel
theorem d_La_leave_3 : decode c_La_leave 3 = .ok (.aload_n 0, 1) := by decide +kernel
theorem d_La_leave_4 : decode c_La_leave 4 = .ok (.iload_n 1, 1) := by decide +kernel
theorem d_La_leave_5 : decode c_La_leave 5 = .ok (.iload_n 2, 1) := by decide +kernel
theorem d_La_leave_6 : decode c_La_leave 6 = .ok (.iload_n 3, 1) := by decide +kernel
theorem d_La_leave_7 : decode c_La_leave 7 = .ok (.invokevirtual 42, 3) := by decide +kernel
theorem d_La_leave_10 : decode c_La_leave 10 = .ok (.i2l, 1) := by decide +kernel
theorem d_La_leave_11 : decode c_La_leave 11 = .ok (.lastore, 1) := by decide +kernel
theorem d_La_leave_12 : decode c_La_leave 12 = .ok (.goto 7, 3) := by decide +kernel
theorem d_La_leave_15 : decode c_La_leave 15 = .ok (.astore 5, 2) := by decide +kernel
theorem d_La_leave_17 : decode c_La_leave 17 = .ok (.iconst 1, 1) := by decide +kernel
theorem d_La_leave_18 : decode c_La_leave 18 = .ok (.ireturn, 1) := by decide +kernel
theorem d_La_leave_19 : decode c_La_leave 19 = .ok (.iconst 0, 1) := by decide +kernel
theorem d_La_leave_20 : decode c_La_leave 20 = .ok (.ireturn, 1) := by decide +kernel
abbrev hh_La_leave : List (Nat × Nat × Nat × Nat) := [((0), (12), (15), (13))]
abbrev rm_La_leave : Room := { frames := 8, cells := 1, slots := 6, locals := 133 }
set_option maxHeartbeats 4000000 in
set_option maxRecDepth 100000 in
theorem w_La_leave (l : Launch) (g : Gx) (ws0 : va_W) (sz : Nat) {s : CS} {a1 : Int32} {a2 : Int32} {a3 : Int32} {o : (Nat × CS) ⊕ (Int32 × CS)} {out : Nat → Int64} (hR : cs_Rel g ws0 ws0 s) (h47 : ws0[47]? = some (g.2.1 47, .inl (g.2.2 2, 1, .inr (.inl out)))) (hl0 : l.stackTraces = false) (h : fn_CT_leave s a1 a2 a3 = some o) (hk : ∀ k s1, o = .inl (k, s1) → k = 1) : ct_MW l y_La_leave c_La_leave 6 hh_La_leave rm_La_leave g ws0 sz [.ref (g.2.1 0), .int a1, .int a2, .int a3, .ref (g.2.1 47)] (wr_code o) (fun u => lw_W g ws0 u (wr_st o) (wr_outI o out)) 1 6 := by
  refine ct_startW (by decide +kernel) (Nat.le_of_ble_eq_true rfl) (fun p e sv m args below meth c ls Q A H locs C0 htab hret hl hw => ?_)
  have hx := C0.1
  have hb := C0.2.1
  have hl : lv_has ls 6 [(0, .ref (g.2.1 0)), (1, .int a1), (2, .int a2), (3, .int a3), (4, .ref (g.2.1 47))] := hl
  refine lv_aload hx hb d_La_leave_0 (lv_at hl 4 rfl) ?_
  refine lv_iconst (v := 0) hx hb d_La_leave_2 (by decide) ?_
  refine lv_aload_n hx hb d_La_leave_3 rfl (lv_at hl 0 rfl) ?_
  refine lv_iload_n hx hb d_La_leave_4 rfl (lv_at hl 1 rfl) ?_
  refine lv_iload_n hx hb d_La_leave_5 rfl (lv_at hl 2 rfl) ?_
  refine lv_iload_n hx hb d_La_leave_6 rfl (lv_at hl 3 rfl) ?_
  refine ct_callVXi (ws := ws0) C0 hw hl.1 (q0 := 0) (hR.1 0 (by decide)) rfl (ct_giV wd_433 wd_434 wd_435 wd_1 wd_436) (fun sz => s_CT_leave l g ws0 sz hR hl0 h) (nA := 3) (rm := rm_CT_leave) (by decide +kernel) rfl ⟨rfl, rfl⟩ (by decide) (by decide) (As := [.int a1, .int a2, .int a3]) (rest := [.int 0, .ref (g.2.1 47)]) rfl (Nat.le_of_ble_eq_true rfl) d_La_leave_7 (fun E ce q9 ws1 H locs k9 s9 hw ho9 hE hp h1 h2 h3 => ?_) (fun r9 ws1 H locs s9 hw ho9 hp => ?_)
  · rcases hk k9 s9 ho9 with rfl
    · refine wr_catch1 C0 htab wd_200 wd_214 (by decide) hE h1 h2 h3 ?_
      refine lv_astore (lv' := [(5, .ref q9), (0, .ref (g.2.1 0)), (1, .int a1), (2, .int a2), (3, .int a3), (4, .ref (g.2.1 47))]) hx hb d_La_leave_15 hl (by decide) rfl (fun ls hl => ?_)
      refine lv_iconst (v := 1) hx hb d_La_leave_17 (by decide) ?_
      subst ho9
      exact hret hw (lw_W_keep h47 hp) rfl (by decide) (by decide) d_La_leave_18
  refine lv_i2l hx hb d_La_leave_10 rfl ?_
  subst ho9
  refine va_last hx hb C0.2.2.2.2.2.1.1 hw.1 hw.2.1 hw.2.2 47 2 ((hp.2 47 (by decide)).trans h47) rfl (ct_inR_vp (by decide)) d_La_leave_11 (fun H locs hP hD hS => ?_)
  refine lv_goto hx hb (tgt := 19) d_La_leave_12 (by decide) ?_
  refine lv_iconst (v := 0) hx hb d_La_leave_19 (by decide) ?_
  exact hret ⟨hP, hD, hS⟩ (lw_W_put h47 hp) rfl (by decide) (by decide) d_La_leave_20
theorem d_La_latest_0 : decode c_La_latest 0 = .ok (.aload_n 0, 1) := by decide +kernel
theorem d_La_latest_1 : decode c_La_latest 1 = .ok (.iload_n 1, 1) := by decide +kernel
theorem d_La_latest_2 : decode c_La_latest 2 = .ok (.invokevirtual 46, 3) := by decide +kernel
theorem d_La_latest_5 : decode c_La_latest 5 = .ok (.goto 6, 3) := by decide +kernel
theorem d_La_latest_8 : decode c_La_latest 8 = .ok (.astore_n 2, 1) := by decide +kernel
theorem d_La_latest_9 : decode c_La_latest 9 = .ok (.iconst 1, 1) := by decide +kernel
theorem d_La_latest_10 : decode c_La_latest 10 = .ok (.ireturn, 1) := by decide +kernel
theorem d_La_latest_11 : decode c_La_latest 11 = .ok (.iconst 0, 1) := by decide +kernel
theorem d_La_latest_12 : decode c_La_latest 12 = .ok (.ireturn, 1) := by decide +kernel
abbrev hh_La_latest : List (Nat × Nat × Nat × Nat) := [((0), (5), (8), (13))]
abbrev rm_La_latest : Room := { frames := 8, cells := 1, slots := 6, locals := 131 }
set_option maxHeartbeats 4000000 in
set_option maxRecDepth 100000 in
theorem w_La_latest (l : Launch) (g : Gx) (ws0 : va_W) (sz : Nat) {s : CS} {a1 : Int32} {o : (Nat × CS) ⊕ CS} {out : Nat → Int64} (hR : cs_Rel g ws0 ws0 s) (h47 : ws0[47]? = some (g.2.1 47, .inl (g.2.2 2, 1, .inr (.inl out)))) (hl0 : l.stackTraces = false) (h : fn_CT_latest s a1 = some o) (hk : ∀ k s1, o = .inl (k, s1) → k = 1) : ct_MW l y_La_latest c_La_latest 3 hh_La_latest rm_La_latest g ws0 sz [.ref (g.2.1 0), .int a1] (wr_code o) (fun u => lw_W g ws0 u (wr_stv o) out) 1 6 := by
  refine ct_startW (by decide +kernel) (Nat.le_of_ble_eq_true rfl) (fun p e sv m args below meth c ls Q A H locs C0 htab hret hl hw => ?_)
  have hx := C0.1
  have hb := C0.2.1
  have hl : lv_has ls 3 [(0, .ref (g.2.1 0)), (1, .int a1)] := hl
  refine lv_aload_n hx hb d_La_latest_0 rfl (lv_at hl 0 rfl) ?_
  refine lv_iload_n hx hb d_La_latest_1 rfl (lv_at hl 1 rfl) ?_
  refine ct_callVXv (ws := ws0) C0 hw hl.1 (q0 := 0) (hR.1 0 (by decide)) rfl (ct_giV wd_444 wd_445 wd_446 wd_1 wd_447) (fun sz => s_CT_latest l g ws0 sz hR hl0 h) (nA := 1) (rm := rm_CT_latest) (by decide +kernel) rfl ⟨rfl, rfl⟩ (by decide) (by decide) (As := [.int a1]) (rest := []) rfl (Nat.le_of_ble_eq_true rfl) d_La_latest_2 (fun E ce q9 ws1 H locs k9 s9 hw ho9 hE hp h1 h2 h3 => ?_) (fun ws1 H locs s9 hw ho9 hp => ?_)
  · rcases hk k9 s9 ho9 with rfl
    · refine wr_catch1 C0 htab wd_200 wd_214 (by decide) hE h1 h2 h3 ?_
      refine lv_astore_n (lv' := [(2, .ref q9), (0, .ref (g.2.1 0)), (1, .int a1)]) hx hb d_La_latest_8 rfl hl (by decide) rfl (fun ls hl => ?_)
      refine lv_iconst (v := 1) hx hb d_La_latest_9 (by decide) ?_
      subst ho9
      exact hret hw (lw_W_keep h47 hp) rfl (by decide) (by decide) d_La_latest_10
  subst ho9
  refine lv_goto hx hb (tgt := 11) d_La_latest_5 (by decide) ?_
  refine lv_iconst (v := 0) hx hb d_La_latest_11 (by decide) ?_
  exact hret hw (lw_W_keep h47 hp) rfl (by decide) (by decide) d_La_latest_12
theorem d_La_hide_0 : decode c_La_hide 0 = .ok (.aload_n 2, 1) := by decide +kernel
theorem d_La_hide_1 : decode c_La_hide 1 = .ok (.iconst 0, 1) := by decide +kernel
theorem d_La_hide_2 : decode c_La_hide 2 = .ok (.aload_n 0, 1) := by decide +kernel
theorem d_La_hide_3 : decode c_La_hide 3 = .ok (.iload_n 1, 1) := by decide +kernel
theorem d_La_hide_4 : decode c_La_hide 4 = .ok (.invokevirtual 50, 3) := by decide +kernel
theorem d_La_hide_7 : decode c_La_hide 7 = .ok (.i2l, 1) := by decide +kernel
theorem d_La_hide_8 : decode c_La_hide 8 = .ok (.lastore, 1) := by decide +kernel
theorem d_La_hide_9 : decode c_La_hide 9 = .ok (.goto 6, 3) := by decide +kernel
theorem d_La_hide_12 : decode c_La_hide 12 = .ok (.astore_n 3, 1) := by decide +kernel
theorem d_La_hide_13 : decode c_La_hide 13 = .ok (.iconst 1, 1) := by decide +kernel
theorem d_La_hide_14 : decode c_La_hide 14 = .ok (.ireturn, 1) := by decide +kernel
theorem d_La_hide_15 : decode c_La_hide 15 = .ok (.iconst 0, 1) := by decide +kernel
theorem d_La_hide_16 : decode c_La_hide 16 = .ok (.ireturn, 1) := by decide +kernel
abbrev hh_La_hide : List (Nat × Nat × Nat × Nat) := [((0), (9), (12), (13))]
abbrev rm_La_hide : Room := { frames := 8, cells := 1, slots := 6, locals := 131 }
set_option maxHeartbeats 4000000 in
set_option maxRecDepth 100000 in
theorem w_La_hide (l : Launch) (g : Gx) (ws0 : va_W) (sz : Nat) {s : CS} {a1 : Int32} {o : (Nat × CS) ⊕ (Int32 × CS)} {out : Nat → Int64} (hR : cs_Rel g ws0 ws0 s) (h47 : ws0[47]? = some (g.2.1 47, .inl (g.2.2 2, 1, .inr (.inl out)))) (hl0 : l.stackTraces = false) (h : fn_CT_hide s a1 = some o) (hk : ∀ k s1, o = .inl (k, s1) → k = 1) : ct_MW l y_La_hide c_La_hide 4 hh_La_hide rm_La_hide g ws0 sz [.ref (g.2.1 0), .int a1, .ref (g.2.1 47)] (wr_code o) (fun u => lw_W g ws0 u (wr_st o) (wr_outI o out)) 1 6 := by
  refine ct_startW (by decide +kernel) (Nat.le_of_ble_eq_true rfl) (fun p e sv m args below meth c ls Q A H locs C0 htab hret hl hw => ?_)
  have hx := C0.1
  have hb := C0.2.1
  have hl : lv_has ls 4 [(0, .ref (g.2.1 0)), (1, .int a1), (2, .ref (g.2.1 47))] := hl
  refine lv_aload_n hx hb d_La_hide_0 rfl (lv_at hl 2 rfl) ?_
  refine lv_iconst (v := 0) hx hb d_La_hide_1 (by decide) ?_
  refine lv_aload_n hx hb d_La_hide_2 rfl (lv_at hl 0 rfl) ?_
  refine lv_iload_n hx hb d_La_hide_3 rfl (lv_at hl 1 rfl) ?_
  refine ct_callVXi (ws := ws0) C0 hw hl.1 (q0 := 0) (hR.1 0 (by decide)) rfl (ct_giV wd_451 wd_452 wd_453 wd_1 wd_454) (fun sz => s_CT_hide l g ws0 sz hR hl0 h) (nA := 1) (rm := rm_CT_hide) (by decide +kernel) rfl ⟨rfl, rfl⟩ (by decide) (by decide) (As := [.int a1]) (rest := [.int 0, .ref (g.2.1 47)]) rfl (Nat.le_of_ble_eq_true rfl) d_La_hide_4 (fun E ce q9 ws1 H locs k9 s9 hw ho9 hE hp h1 h2 h3 => ?_) (fun r9 ws1 H locs s9 hw ho9 hp => ?_)
  · rcases hk k9 s9 ho9 with rfl
    · refine wr_catch1 C0 htab wd_200 wd_214 (by decide) hE h1 h2 h3 ?_
      refine lv_astore_n (lv' := [(3, .ref q9), (0, .ref (g.2.1 0)), (1, .int a1), (2, .ref (g.2.1 47))]) hx hb d_La_hide_12 rfl hl (by decide) rfl (fun ls hl => ?_)
      refine lv_iconst (v := 1) hx hb d_La_hide_13 (by decide) ?_
      subst ho9
      exact hret hw (lw_W_keep h47 hp) rfl (by decide) (by decide) d_La_hide_14
  refine lv_i2l hx hb d_La_hide_7 rfl ?_
  subst ho9
  refine va_last hx hb C0.2.2.2.2.2.1.1 hw.1 hw.2.1 hw.2.2 47 2 ((hp.2 47 (by decide)).trans h47) rfl (ct_inR_vp (by decide)) d_La_hide_8 (fun H locs hP hD hS => ?_)
  refine lv_goto hx hb (tgt := 15) d_La_hide_9 (by decide) ?_
  refine lv_iconst (v := 0) hx hb d_La_hide_15 (by decide) ?_
  exact hret ⟨hP, hD, hS⟩ (lw_W_put h47 hp) rfl (by decide) (by decide) d_La_hide_16
theorem d_La_factor_0 : decode c_La_factor 0 = .ok (.aload 4, 2) := by decide +kernel
theorem d_La_factor_2 : decode c_La_factor 2 = .ok (.iconst 0, 1) := by decide +kernel
theorem d_La_factor_3 : decode c_La_factor 3 = .ok (.aload_n 0, 1) := by decide +kernel
theorem d_La_factor_4 : decode c_La_factor 4 = .ok (.iload_n 1, 1) := by decide +kernel
theorem d_La_factor_5 : decode c_La_factor 5 = .ok (.iload_n 2, 1) := by decide +kernel
theorem d_La_factor_6 : decode c_La_factor 6 = .ok (.iload_n 3, 1) := by decide +kernel
theorem d_La_factor_7 : decode c_La_factor 7 = .ok (.invokevirtual 53, 3) := by decide +kernel
theorem d_La_factor_10 : decode c_La_factor 10 = .ok (.lastore, 1) := by decide +kernel
theorem d_La_factor_11 : decode c_La_factor 11 = .ok (.goto 15, 3) := by decide +kernel
theorem d_La_factor_14 : decode c_La_factor 14 = .ok (.astore 5, 2) := by decide +kernel
theorem d_La_factor_16 : decode c_La_factor 16 = .ok (.iconst 1, 1) := by decide +kernel
theorem d_La_factor_17 : decode c_La_factor 17 = .ok (.ireturn, 1) := by decide +kernel
theorem d_La_factor_18 : decode c_La_factor 18 = .ok (.astore 5, 2) := by decide +kernel
theorem d_La_factor_20 : decode c_La_factor 20 = .ok (.iconst 2, 1) := by decide +kernel
theorem d_La_factor_21 : decode c_La_factor 21 = .ok (.ireturn, 1) := by decide +kernel
theorem d_La_factor_22 : decode c_La_factor 22 = .ok (.astore 5, 2) := by decide +kernel
theorem d_La_factor_24 : decode c_La_factor 24 = .ok (.iconst 3, 1) := by decide +kernel
theorem d_La_factor_25 : decode c_La_factor 25 = .ok (.ireturn, 1) := by decide +kernel
theorem d_La_factor_26 : decode c_La_factor 26 = .ok (.iconst 0, 1) := by decide +kernel
theorem d_La_factor_27 : decode c_La_factor 27 = .ok (.ireturn, 1) := by decide +kernel
abbrev hh_La_factor : List (Nat × Nat × Nat × Nat) := [((0), (11), (14), (13)), ((0), (11), (18), (57)), ((0), (11), (22), (59))]
abbrev rm_La_factor : Room := { frames := 9, cells := 2, slots := 12, locals := 155 }
set_option maxHeartbeats 4000000 in
set_option maxRecDepth 100000 in
theorem w_La_factor (l : Launch) (g : Gx) (ws0 : va_W) (sz : Nat) {s : CS} {a1 : Int32} {a2 : Int32} {a3 : Int32} {o : (Nat × CS) ⊕ (Int64 × CS)} {out : Nat → Int64} (hR : cs_Rel g ws0 ws0 s) (h47 : ws0[47]? = some (g.2.1 47, .inl (g.2.2 2, 1, .inr (.inl out)))) (hl0 : l.stackTraces = false) (h : fn_CT_factor s a1 a2 a3 = some o) (hk : ∀ k s1, o = .inl (k, s1) → k = 1 ∨ k = 3 ∨ k = 4) : ct_MW l y_La_factor c_La_factor 6 hh_La_factor rm_La_factor g ws0 sz [.ref (g.2.1 0), .int a1, .int a2, .int a3, .ref (g.2.1 47)] (wr_code o) (fun u => lw_W g ws0 u (wr_st o) (wr_outL o out)) 2 12 := by
  refine ct_startW (by decide +kernel) (Nat.le_of_ble_eq_true rfl) (fun p e sv m args below meth c ls Q A H locs C0 htab hret hl hw => ?_)
  have hx := C0.1
  have hb := C0.2.1
  have hl : lv_has ls 6 [(0, .ref (g.2.1 0)), (1, .int a1), (2, .int a2), (3, .int a3), (4, .ref (g.2.1 47))] := hl
  refine lv_aload hx hb d_La_factor_0 (lv_at hl 4 rfl) ?_
  refine lv_iconst (v := 0) hx hb d_La_factor_2 (by decide) ?_
  refine lv_aload_n hx hb d_La_factor_3 rfl (lv_at hl 0 rfl) ?_
  refine lv_iload_n hx hb d_La_factor_4 rfl (lv_at hl 1 rfl) ?_
  refine lv_iload_n hx hb d_La_factor_5 rfl (lv_at hl 2 rfl) ?_
  refine lv_iload_n hx hb d_La_factor_6 rfl (lv_at hl 3 rfl) ?_
  refine ct_callVXl (ws := ws0) C0 hw hl.1 (q0 := 0) (hR.1 0 (by decide)) rfl (ct_giV wd_460 wd_461 wd_462 wd_1 wd_463) (fun sz => s_CT_factor l g ws0 sz hR hl0 h) (nA := 3) (rm := rm_CT_factor) (by decide +kernel) rfl ⟨rfl, rfl⟩ (by decide) (by decide) (As := [.int a1, .int a2, .int a3]) (rest := [.int 0, .ref (g.2.1 47)]) rfl (Nat.le_of_ble_eq_true rfl) d_La_factor_7 (fun E ce q9 ws1 H locs k9 s9 hw ho9 hE hp h1 h2 h3 => ?_) (fun r9 ws1 H locs s9 hw ho9 hp => ?_)
  · rcases hk k9 s9 ho9 with rfl | rfl | rfl
    · refine wr_catch1 C0 htab wd_200 wd_214 (by decide) hE h1 h2 h3 ?_
      refine lv_astore (lv' := [(5, .ref q9), (0, .ref (g.2.1 0)), (1, .int a1), (2, .int a2), (3, .int a3), (4, .ref (g.2.1 47))]) hx hb d_La_factor_14 hl (by decide) rfl (fun ls hl => ?_)
      refine lv_iconst (v := 1) hx hb d_La_factor_16 (by decide) ?_
      subst ho9
      exact hret hw (lw_W_keep h47 hp) rfl (by decide) (by decide) d_La_factor_17
    · refine wr_catch2 C0 htab (by decide) wd_200 C0.2.2.2.2.2.1.2.2.2.2.2.2.2.2.1 wd_458 wd_499 (by decide) hE h1 h2 h3 ?_
      refine lv_astore (lv' := [(5, .ref q9), (0, .ref (g.2.1 0)), (1, .int a1), (2, .int a2), (3, .int a3), (4, .ref (g.2.1 47))]) hx hb d_La_factor_18 hl (by decide) rfl (fun ls hl => ?_)
      refine lv_iconst (v := 2) hx hb d_La_factor_20 (by decide) ?_
      subst ho9
      exact hret hw (lw_W_keep h47 hp) rfl (by decide) (by decide) d_La_factor_21
    · refine wr_catch3 C0 htab wd_200 wd_458 wd_459 wd_515 (by decide) hE h1 h2 h3 ?_
      refine lv_astore (lv' := [(5, .ref q9), (0, .ref (g.2.1 0)), (1, .int a1), (2, .int a2), (3, .int a3), (4, .ref (g.2.1 47))]) hx hb d_La_factor_22 hl (by decide) rfl (fun ls hl => ?_)
      refine lv_iconst (v := 3) hx hb d_La_factor_24 (by decide) ?_
      subst ho9
      exact hret hw (lw_W_keep h47 hp) rfl (by decide) (by decide) d_La_factor_25
  subst ho9
  refine va_last hx hb C0.2.2.2.2.2.1.1 hw.1 hw.2.1 hw.2.2 47 2 ((hp.2 47 (by decide)).trans h47) rfl (ct_inR_vp (by decide)) d_La_factor_10 (fun H locs hP hD hS => ?_)
  refine lv_goto hx hb (tgt := 26) d_La_factor_11 (by decide) ?_
  refine lv_iconst (v := 0) hx hb d_La_factor_26 (by decide) ?_
  exact hret ⟨hP, hD, hS⟩ (lw_W_put h47 hp) rfl (by decide) (by decide) d_La_factor_27
theorem d_La_ultimate_0 : decode c_La_ultimate 0 = .ok (.aload 4, 2) := by decide +kernel
theorem d_La_ultimate_2 : decode c_La_ultimate 2 = .ok (.iconst 0, 1) := by decide +kernel
theorem d_La_ultimate_3 : decode c_La_ultimate 3 = .ok (.aload_n 0, 1) := by decide +kernel
theorem d_La_ultimate_4 : decode c_La_ultimate 4 = .ok (.iload_n 1, 1) := by decide +kernel
theorem d_La_ultimate_5 : decode c_La_ultimate 5 = .ok (.iload_n 2, 1) := by decide +kernel
theorem d_La_ultimate_6 : decode c_La_ultimate 6 = .ok (.iload_n 3, 1) := by decide +kernel
theorem d_La_ultimate_7 : decode c_La_ultimate 7 = .ok (.invokevirtual 61, 3) := by decide +kernel
theorem d_La_ultimate_10 : decode c_La_ultimate 10 = .ok (.lastore, 1) := by decide +kernel
theorem d_La_ultimate_11 : decode c_La_ultimate 11 = .ok (.goto 15, 3) := by decide +kernel
theorem d_La_ultimate_14 : decode c_La_ultimate 14 = .ok (.astore 5, 2) := by decide +kernel
theorem d_La_ultimate_16 : decode c_La_ultimate 16 = .ok (.iconst 1, 1) := by decide +kernel
theorem d_La_ultimate_17 : decode c_La_ultimate 17 = .ok (.ireturn, 1) := by decide +kernel
theorem d_La_ultimate_18 : decode c_La_ultimate 18 = .ok (.astore 5, 2) := by decide +kernel
theorem d_La_ultimate_20 : decode c_La_ultimate 20 = .ok (.iconst 2, 1) := by decide +kernel
theorem d_La_ultimate_21 : decode c_La_ultimate 21 = .ok (.ireturn, 1) := by decide +kernel
theorem d_La_ultimate_22 : decode c_La_ultimate 22 = .ok (.astore 5, 2) := by decide +kernel
theorem d_La_ultimate_24 : decode c_La_ultimate 24 = .ok (.iconst 3, 1) := by decide +kernel
theorem d_La_ultimate_25 : decode c_La_ultimate 25 = .ok (.ireturn, 1) := by decide +kernel
theorem d_La_ultimate_26 : decode c_La_ultimate 26 = .ok (.iconst 0, 1) := by decide +kernel
theorem d_La_ultimate_27 : decode c_La_ultimate 27 = .ok (.ireturn, 1) := by decide +kernel
abbrev hh_La_ultimate : List (Nat × Nat × Nat × Nat) := [((0), (11), (14), (13)), ((0), (11), (18), (57)), ((0), (11), (22), (59))]
abbrev rm_La_ultimate : Room := { frames := 9, cells := 2, slots := 12, locals := 155 }
set_option maxHeartbeats 4000000 in
set_option maxRecDepth 100000 in
theorem w_La_ultimate (l : Launch) (g : Gx) (ws0 : va_W) (sz : Nat) {s : CS} {a1 : Int32} {a2 : Int32} {a3 : Int32} {o : (Nat × CS) ⊕ (Int64 × CS)} {out : Nat → Int64} (hR : cs_Rel g ws0 ws0 s) (h47 : ws0[47]? = some (g.2.1 47, .inl (g.2.2 2, 1, .inr (.inl out)))) (hl0 : l.stackTraces = false) (h : fn_CT_ultimate s a1 a2 a3 = some o) (hk : ∀ k s1, o = .inl (k, s1) → k = 1 ∨ k = 3 ∨ k = 4) : ct_MW l y_La_ultimate c_La_ultimate 6 hh_La_ultimate rm_La_ultimate g ws0 sz [.ref (g.2.1 0), .int a1, .int a2, .int a3, .ref (g.2.1 47)] (wr_code o) (fun u => lw_W g ws0 u (wr_st o) (wr_outL o out)) 2 12 := by
  refine ct_startW (by decide +kernel) (Nat.le_of_ble_eq_true rfl) (fun p e sv m args below meth c ls Q A H locs C0 htab hret hl hw => ?_)
  have hx := C0.1
  have hb := C0.2.1
  have hl : lv_has ls 6 [(0, .ref (g.2.1 0)), (1, .int a1), (2, .int a2), (3, .int a3), (4, .ref (g.2.1 47))] := hl
  refine lv_aload hx hb d_La_ultimate_0 (lv_at hl 4 rfl) ?_
  refine lv_iconst (v := 0) hx hb d_La_ultimate_2 (by decide) ?_
  refine lv_aload_n hx hb d_La_ultimate_3 rfl (lv_at hl 0 rfl) ?_
  refine lv_iload_n hx hb d_La_ultimate_4 rfl (lv_at hl 1 rfl) ?_
  refine lv_iload_n hx hb d_La_ultimate_5 rfl (lv_at hl 2 rfl) ?_
  refine lv_iload_n hx hb d_La_ultimate_6 rfl (lv_at hl 3 rfl) ?_
  refine ct_callVXl (ws := ws0) C0 hw hl.1 (q0 := 0) (hR.1 0 (by decide)) rfl (ct_giV wd_532 wd_533 wd_534 wd_1 wd_535) (fun sz => s_CT_ultimate l g ws0 sz hR hl0 h) (nA := 3) (rm := rm_CT_ultimate) (by decide +kernel) rfl ⟨rfl, rfl⟩ (by decide) (by decide) (As := [.int a1, .int a2, .int a3]) (rest := [.int 0, .ref (g.2.1 47)]) rfl (Nat.le_of_ble_eq_true rfl) d_La_ultimate_7 (fun E ce q9 ws1 H locs k9 s9 hw ho9 hE hp h1 h2 h3 => ?_) (fun r9 ws1 H locs s9 hw ho9 hp => ?_)
  · rcases hk k9 s9 ho9 with rfl | rfl | rfl
    · refine wr_catch1 C0 htab wd_200 wd_214 (by decide) hE h1 h2 h3 ?_
      refine lv_astore (lv' := [(5, .ref q9), (0, .ref (g.2.1 0)), (1, .int a1), (2, .int a2), (3, .int a3), (4, .ref (g.2.1 47))]) hx hb d_La_ultimate_14 hl (by decide) rfl (fun ls hl => ?_)
      refine lv_iconst (v := 1) hx hb d_La_ultimate_16 (by decide) ?_
      subst ho9
      exact hret hw (lw_W_keep h47 hp) rfl (by decide) (by decide) d_La_ultimate_17
    · refine wr_catch2 C0 htab (by decide) wd_200 C0.2.2.2.2.2.1.2.2.2.2.2.2.2.2.1 wd_458 wd_499 (by decide) hE h1 h2 h3 ?_
      refine lv_astore (lv' := [(5, .ref q9), (0, .ref (g.2.1 0)), (1, .int a1), (2, .int a2), (3, .int a3), (4, .ref (g.2.1 47))]) hx hb d_La_ultimate_18 hl (by decide) rfl (fun ls hl => ?_)
      refine lv_iconst (v := 2) hx hb d_La_ultimate_20 (by decide) ?_
      subst ho9
      exact hret hw (lw_W_keep h47 hp) rfl (by decide) (by decide) d_La_ultimate_21
    · refine wr_catch3 C0 htab wd_200 wd_458 wd_459 wd_515 (by decide) hE h1 h2 h3 ?_
      refine lv_astore (lv' := [(5, .ref q9), (0, .ref (g.2.1 0)), (1, .int a1), (2, .int a2), (3, .int a3), (4, .ref (g.2.1 47))]) hx hb d_La_ultimate_22 hl (by decide) rfl (fun ls hl => ?_)
      refine lv_iconst (v := 3) hx hb d_La_ultimate_24 (by decide) ?_
      subst ho9
      exact hret hw (lw_W_keep h47 hp) rfl (by decide) (by decide) d_La_ultimate_25
  subst ho9
  refine va_last hx hb C0.2.2.2.2.2.1.1 hw.1 hw.2.1 hw.2.2 47 2 ((hp.2 47 (by decide)).trans h47) rfl (ct_inR_vp (by decide)) d_La_ultimate_10 (fun H locs hP hD hS => ?_)
  refine lv_goto hx hb (tgt := 26) d_La_ultimate_11 (by decide) ?_
  refine lv_iconst (v := 0) hx hb d_La_ultimate_26 (by decide) ?_
  exact hret ⟨hP, hD, hS⟩ (lw_W_put h47 hp) rfl (by decide) (by decide) d_La_ultimate_27
theorem d_La_reserve_0 : decode c_La_reserve 0 = .ok (.aload 4, 2) := by decide +kernel
theorem d_La_reserve_2 : decode c_La_reserve 2 = .ok (.iconst 0, 1) := by decide +kernel
theorem d_La_reserve_3 : decode c_La_reserve 3 = .ok (.aload_n 0, 1) := by decide +kernel
theorem d_La_reserve_4 : decode c_La_reserve 4 = .ok (.iload_n 1, 1) := by decide +kernel
theorem d_La_reserve_5 : decode c_La_reserve 5 = .ok (.iload_n 2, 1) := by decide +kernel
theorem d_La_reserve_6 : decode c_La_reserve 6 = .ok (.iload_n 3, 1) := by decide +kernel
theorem d_La_reserve_7 : decode c_La_reserve 7 = .ok (.invokevirtual 64, 3) := by decide +kernel
theorem d_La_reserve_10 : decode c_La_reserve 10 = .ok (.lastore, 1) := by decide +kernel
theorem d_La_reserve_11 : decode c_La_reserve 11 = .ok (.goto 15, 3) := by decide +kernel
theorem d_La_reserve_14 : decode c_La_reserve 14 = .ok (.astore 5, 2) := by decide +kernel
theorem d_La_reserve_16 : decode c_La_reserve 16 = .ok (.iconst 1, 1) := by decide +kernel
theorem d_La_reserve_17 : decode c_La_reserve 17 = .ok (.ireturn, 1) := by decide +kernel
theorem d_La_reserve_18 : decode c_La_reserve 18 = .ok (.astore 5, 2) := by decide +kernel
theorem d_La_reserve_20 : decode c_La_reserve 20 = .ok (.iconst 2, 1) := by decide +kernel
theorem d_La_reserve_21 : decode c_La_reserve 21 = .ok (.ireturn, 1) := by decide +kernel
theorem d_La_reserve_22 : decode c_La_reserve 22 = .ok (.astore 5, 2) := by decide +kernel
theorem d_La_reserve_24 : decode c_La_reserve 24 = .ok (.iconst 3, 1) := by decide +kernel
theorem d_La_reserve_25 : decode c_La_reserve 25 = .ok (.ireturn, 1) := by decide +kernel
theorem d_La_reserve_26 : decode c_La_reserve 26 = .ok (.iconst 0, 1) := by decide +kernel
theorem d_La_reserve_27 : decode c_La_reserve 27 = .ok (.ireturn, 1) := by decide +kernel
abbrev hh_La_reserve : List (Nat × Nat × Nat × Nat) := [((0), (11), (14), (13)), ((0), (11), (18), (57)), ((0), (11), (22), (59))]
abbrev rm_La_reserve : Room := { frames := 9, cells := 2, slots := 12, locals := 176 }
set_option maxHeartbeats 4000000 in
set_option maxRecDepth 100000 in
theorem w_La_reserve (l : Launch) (g : Gx) (ws0 : va_W) (sz : Nat) {s : CS} {a1 : Int32} {a2 : Int32} {a3 : Int32} {o : (Nat × CS) ⊕ (Int64 × CS)} {out : Nat → Int64} (hR : cs_Rel g ws0 ws0 s) (h47 : ws0[47]? = some (g.2.1 47, .inl (g.2.2 2, 1, .inr (.inl out)))) (hl0 : l.stackTraces = false) (h : fn_CT_reserve s a1 a2 a3 = some o) (hk : ∀ k s1, o = .inl (k, s1) → k = 1 ∨ k = 3 ∨ k = 4) : ct_MW l y_La_reserve c_La_reserve 6 hh_La_reserve rm_La_reserve g ws0 sz [.ref (g.2.1 0), .int a1, .int a2, .int a3, .ref (g.2.1 47)] (wr_code o) (fun u => lw_W g ws0 u (wr_st o) (wr_outL o out)) 2 12 := by
  refine ct_startW (by decide +kernel) (Nat.le_of_ble_eq_true rfl) (fun p e sv m args below meth c ls Q A H locs C0 htab hret hl hw => ?_)
  have hx := C0.1
  have hb := C0.2.1
  have hl : lv_has ls 6 [(0, .ref (g.2.1 0)), (1, .int a1), (2, .int a2), (3, .int a3), (4, .ref (g.2.1 47))] := hl
  refine lv_aload hx hb d_La_reserve_0 (lv_at hl 4 rfl) ?_
  refine lv_iconst (v := 0) hx hb d_La_reserve_2 (by decide) ?_
  refine lv_aload_n hx hb d_La_reserve_3 rfl (lv_at hl 0 rfl) ?_
  refine lv_iload_n hx hb d_La_reserve_4 rfl (lv_at hl 1 rfl) ?_
  refine lv_iload_n hx hb d_La_reserve_5 rfl (lv_at hl 2 rfl) ?_
  refine lv_iload_n hx hb d_La_reserve_6 rfl (lv_at hl 3 rfl) ?_
  refine ct_callVXl (ws := ws0) C0 hw hl.1 (q0 := 0) (hR.1 0 (by decide)) rfl (ct_giV wd_604 wd_605 wd_606 wd_1 wd_607) (fun sz => s_CT_reserve l g ws0 sz hR hl0 h) (nA := 3) (rm := rm_CT_reserve) (by decide +kernel) rfl ⟨rfl, rfl⟩ (by decide) (by decide) (As := [.int a1, .int a2, .int a3]) (rest := [.int 0, .ref (g.2.1 47)]) rfl (Nat.le_of_ble_eq_true rfl) d_La_reserve_7 (fun E ce q9 ws1 H locs k9 s9 hw ho9 hE hp h1 h2 h3 => ?_) (fun r9 ws1 H locs s9 hw ho9 hp => ?_)
  · rcases hk k9 s9 ho9 with rfl | rfl | rfl
    · refine wr_catch1 C0 htab wd_200 wd_214 (by decide) hE h1 h2 h3 ?_
      refine lv_astore (lv' := [(5, .ref q9), (0, .ref (g.2.1 0)), (1, .int a1), (2, .int a2), (3, .int a3), (4, .ref (g.2.1 47))]) hx hb d_La_reserve_14 hl (by decide) rfl (fun ls hl => ?_)
      refine lv_iconst (v := 1) hx hb d_La_reserve_16 (by decide) ?_
      subst ho9
      exact hret hw (lw_W_keep h47 hp) rfl (by decide) (by decide) d_La_reserve_17
    · refine wr_catch2 C0 htab (by decide) wd_200 C0.2.2.2.2.2.1.2.2.2.2.2.2.2.2.1 wd_458 wd_499 (by decide) hE h1 h2 h3 ?_
      refine lv_astore (lv' := [(5, .ref q9), (0, .ref (g.2.1 0)), (1, .int a1), (2, .int a2), (3, .int a3), (4, .ref (g.2.1 47))]) hx hb d_La_reserve_18 hl (by decide) rfl (fun ls hl => ?_)
      refine lv_iconst (v := 2) hx hb d_La_reserve_20 (by decide) ?_
      subst ho9
      exact hret hw (lw_W_keep h47 hp) rfl (by decide) (by decide) d_La_reserve_21
    · refine wr_catch3 C0 htab wd_200 wd_458 wd_459 wd_515 (by decide) hE h1 h2 h3 ?_
      refine lv_astore (lv' := [(5, .ref q9), (0, .ref (g.2.1 0)), (1, .int a1), (2, .int a2), (3, .int a3), (4, .ref (g.2.1 47))]) hx hb d_La_reserve_22 hl (by decide) rfl (fun ls hl => ?_)
      refine lv_iconst (v := 3) hx hb d_La_reserve_24 (by decide) ?_
      subst ho9
      exact hret hw (lw_W_keep h47 hp) rfl (by decide) (by decide) d_La_reserve_25
  subst ho9
  refine va_last hx hb C0.2.2.2.2.2.1.1 hw.1 hw.2.1 hw.2.2 47 2 ((hp.2 47 (by decide)).trans h47) rfl (ct_inR_vp (by decide)) d_La_reserve_10 (fun H locs hP hD hS => ?_)
  refine lv_goto hx hb (tgt := 26) d_La_reserve_11 (by decide) ?_
  refine lv_iconst (v := 0) hx hb d_La_reserve_26 (by decide) ?_
  exact hret ⟨hP, hD, hS⟩ (lw_W_put h47 hp) rfl (by decide) (by decide) d_La_reserve_27
theorem d_La_rounded_0 : decode c_La_rounded 0 = .ok (.aload_n 3, 1) := by decide +kernel
theorem d_La_rounded_1 : decode c_La_rounded 1 = .ok (.iconst 0, 1) := by decide +kernel
theorem d_La_rounded_2 : decode c_La_rounded 2 = .ok (.aload_n 0, 1) := by decide +kernel
theorem d_La_rounded_3 : decode c_La_rounded 3 = .ok (.iload_n 1, 1) := by decide +kernel
theorem d_La_rounded_4 : decode c_La_rounded 4 = .ok (.iload_n 2, 1) := by decide +kernel
theorem d_La_rounded_5 : decode c_La_rounded 5 = .ok (.invokevirtual 67, 3) := by decide +kernel
theorem d_La_rounded_8 : decode c_La_rounded 8 = .ok (.lastore, 1) := by decide +kernel
theorem d_La_rounded_9 : decode c_La_rounded 9 = .ok (.goto 15, 3) := by decide +kernel
theorem d_La_rounded_12 : decode c_La_rounded 12 = .ok (.astore 4, 2) := by decide +kernel
theorem d_La_rounded_14 : decode c_La_rounded 14 = .ok (.iconst 1, 1) := by decide +kernel
theorem d_La_rounded_15 : decode c_La_rounded 15 = .ok (.ireturn, 1) := by decide +kernel
theorem d_La_rounded_16 : decode c_La_rounded 16 = .ok (.astore 4, 2) := by decide +kernel
theorem d_La_rounded_18 : decode c_La_rounded 18 = .ok (.iconst 2, 1) := by decide +kernel
theorem d_La_rounded_19 : decode c_La_rounded 19 = .ok (.ireturn, 1) := by decide +kernel
theorem d_La_rounded_20 : decode c_La_rounded 20 = .ok (.astore 4, 2) := by decide +kernel
theorem d_La_rounded_22 : decode c_La_rounded 22 = .ok (.iconst 3, 1) := by decide +kernel
theorem d_La_rounded_23 : decode c_La_rounded 23 = .ok (.ireturn, 1) := by decide +kernel
theorem d_La_rounded_24 : decode c_La_rounded 24 = .ok (.iconst 0, 1) := by decide +kernel
theorem d_La_rounded_25 : decode c_La_rounded 25 = .ok (.ireturn, 1) := by decide +kernel
abbrev hh_La_rounded : List (Nat × Nat × Nat × Nat) := [((0), (9), (12), (13)), ((0), (9), (16), (57)), ((0), (9), (20), (59))]
abbrev rm_La_rounded : Room := { frames := 8, cells := 2, slots := 12, locals := 175 }
set_option maxHeartbeats 4000000 in
set_option maxRecDepth 100000 in
theorem w_La_rounded (l : Launch) (g : Gx) (ws0 : va_W) (sz : Nat) {s : CS} {a1 : Int32} {a2 : Int32} {o : (Nat × CS) ⊕ (Int64 × CS)} {out : Nat → Int64} (hR : cs_Rel g ws0 ws0 s) (h47 : ws0[47]? = some (g.2.1 47, .inl (g.2.2 2, 1, .inr (.inl out)))) (hl0 : l.stackTraces = false) (h : fn_CT_rounded s a1 a2 = some o) (hk : ∀ k s1, o = .inl (k, s1) → k = 1 ∨ k = 3 ∨ k = 4) : ct_MW l y_La_rounded c_La_rounded 5 hh_La_rounded rm_La_rounded g ws0 sz [.ref (g.2.1 0), .int a1, .int a2, .ref (g.2.1 47)] (wr_code o) (fun u => lw_W g ws0 u (wr_st o) (wr_outL o out)) 2 12 := by
  refine ct_startW (by decide +kernel) (Nat.le_of_ble_eq_true rfl) (fun p e sv m args below meth c ls Q A H locs C0 htab hret hl hw => ?_)
  have hx := C0.1
  have hb := C0.2.1
  have hl : lv_has ls 5 [(0, .ref (g.2.1 0)), (1, .int a1), (2, .int a2), (3, .ref (g.2.1 47))] := hl
  refine lv_aload_n hx hb d_La_rounded_0 rfl (lv_at hl 3 rfl) ?_
  refine lv_iconst (v := 0) hx hb d_La_rounded_1 (by decide) ?_
  refine lv_aload_n hx hb d_La_rounded_2 rfl (lv_at hl 0 rfl) ?_
  refine lv_iload_n hx hb d_La_rounded_3 rfl (lv_at hl 1 rfl) ?_
  refine lv_iload_n hx hb d_La_rounded_4 rfl (lv_at hl 2 rfl) ?_
  refine ct_callVXl (ws := ws0) C0 hw hl.1 (q0 := 0) (hR.1 0 (by decide)) rfl (ct_giV wd_616 wd_617 wd_618 wd_1 wd_619) (fun sz => s_CT_rounded l g ws0 sz hR hl0 h) (nA := 2) (rm := rm_CT_rounded) (by decide +kernel) rfl ⟨rfl, rfl⟩ (by decide) (by decide) (As := [.int a1, .int a2]) (rest := [.int 0, .ref (g.2.1 47)]) rfl (Nat.le_of_ble_eq_true rfl) d_La_rounded_5 (fun E ce q9 ws1 H locs k9 s9 hw ho9 hE hp h1 h2 h3 => ?_) (fun r9 ws1 H locs s9 hw ho9 hp => ?_)
  · rcases hk k9 s9 ho9 with rfl | rfl | rfl
    · refine wr_catch1 C0 htab wd_200 wd_214 (by decide) hE h1 h2 h3 ?_
      refine lv_astore (lv' := [(4, .ref q9), (0, .ref (g.2.1 0)), (1, .int a1), (2, .int a2), (3, .ref (g.2.1 47))]) hx hb d_La_rounded_12 hl (by decide) rfl (fun ls hl => ?_)
      refine lv_iconst (v := 1) hx hb d_La_rounded_14 (by decide) ?_
      subst ho9
      exact hret hw (lw_W_keep h47 hp) rfl (by decide) (by decide) d_La_rounded_15
    · refine wr_catch2 C0 htab (by decide) wd_200 C0.2.2.2.2.2.1.2.2.2.2.2.2.2.2.1 wd_458 wd_499 (by decide) hE h1 h2 h3 ?_
      refine lv_astore (lv' := [(4, .ref q9), (0, .ref (g.2.1 0)), (1, .int a1), (2, .int a2), (3, .ref (g.2.1 47))]) hx hb d_La_rounded_16 hl (by decide) rfl (fun ls hl => ?_)
      refine lv_iconst (v := 2) hx hb d_La_rounded_18 (by decide) ?_
      subst ho9
      exact hret hw (lw_W_keep h47 hp) rfl (by decide) (by decide) d_La_rounded_19
    · refine wr_catch3 C0 htab wd_200 wd_458 wd_459 wd_515 (by decide) hE h1 h2 h3 ?_
      refine lv_astore (lv' := [(4, .ref q9), (0, .ref (g.2.1 0)), (1, .int a1), (2, .int a2), (3, .ref (g.2.1 47))]) hx hb d_La_rounded_20 hl (by decide) rfl (fun ls hl => ?_)
      refine lv_iconst (v := 3) hx hb d_La_rounded_22 (by decide) ?_
      subst ho9
      exact hret hw (lw_W_keep h47 hp) rfl (by decide) (by decide) d_La_rounded_23
  subst ho9
  refine va_last hx hb C0.2.2.2.2.2.1.1 hw.1 hw.2.1 hw.2.2 47 2 ((hp.2 47 (by decide)).trans h47) rfl (ct_inR_vp (by decide)) d_La_rounded_8 (fun H locs hP hD hS => ?_)
  refine lv_goto hx hb (tgt := 24) d_La_rounded_9 (by decide) ?_
  refine lv_iconst (v := 0) hx hb d_La_rounded_24 (by decide) ?_
  exact hret ⟨hP, hD, hS⟩ (lw_W_put h47 hp) rfl (by decide) (by decide) d_La_rounded_25
theorem d_La_total_0 : decode c_La_total 0 = .ok (.aload_n 3, 1) := by decide +kernel
theorem d_La_total_1 : decode c_La_total 1 = .ok (.iconst 0, 1) := by decide +kernel
theorem d_La_total_2 : decode c_La_total 2 = .ok (.aload_n 0, 1) := by decide +kernel
theorem d_La_total_3 : decode c_La_total 3 = .ok (.iload_n 1, 1) := by decide +kernel
theorem d_La_total_4 : decode c_La_total 4 = .ok (.iload_n 2, 1) := by decide +kernel
theorem d_La_total_5 : decode c_La_total 5 = .ok (.invokevirtual 71, 3) := by decide +kernel
theorem d_La_total_8 : decode c_La_total 8 = .ok (.lastore, 1) := by decide +kernel
theorem d_La_total_9 : decode c_La_total 9 = .ok (.goto 15, 3) := by decide +kernel
theorem d_La_total_12 : decode c_La_total 12 = .ok (.astore 4, 2) := by decide +kernel
theorem d_La_total_14 : decode c_La_total 14 = .ok (.iconst 1, 1) := by decide +kernel
theorem d_La_total_15 : decode c_La_total 15 = .ok (.ireturn, 1) := by decide +kernel
theorem d_La_total_16 : decode c_La_total 16 = .ok (.astore 4, 2) := by decide +kernel
theorem d_La_total_18 : decode c_La_total 18 = .ok (.iconst 2, 1) := by decide +kernel
theorem d_La_total_19 : decode c_La_total 19 = .ok (.ireturn, 1) := by decide +kernel
theorem d_La_total_20 : decode c_La_total 20 = .ok (.astore 4, 2) := by decide +kernel
theorem d_La_total_22 : decode c_La_total 22 = .ok (.iconst 3, 1) := by decide +kernel
theorem d_La_total_23 : decode c_La_total 23 = .ok (.ireturn, 1) := by decide +kernel
theorem d_La_total_24 : decode c_La_total 24 = .ok (.iconst 0, 1) := by decide +kernel
theorem d_La_total_25 : decode c_La_total 25 = .ok (.ireturn, 1) := by decide +kernel
abbrev hh_La_total : List (Nat × Nat × Nat × Nat) := [((0), (9), (12), (13)), ((0), (9), (16), (57)), ((0), (9), (20), (59))]
abbrev rm_La_total : Room := { frames := 9, cells := 2, slots := 12, locals := 197 }
set_option maxHeartbeats 4000000 in
set_option maxRecDepth 100000 in
theorem w_La_total (l : Launch) (g : Gx) (ws0 : va_W) (sz : Nat) {s : CS} {a1 : Int32} {a2 : Int32} {o : (Nat × CS) ⊕ (Int64 × CS)} {out : Nat → Int64} (hR : cs_Rel g ws0 ws0 s) (h47 : ws0[47]? = some (g.2.1 47, .inl (g.2.2 2, 1, .inr (.inl out)))) (hl0 : l.stackTraces = false) (h : fn_CT_total s a1 a2 = some o) (hk : ∀ k s1, o = .inl (k, s1) → k = 1 ∨ k = 3 ∨ k = 4) : ct_MW l y_La_total c_La_total 5 hh_La_total rm_La_total g ws0 sz [.ref (g.2.1 0), .int a1, .int a2, .ref (g.2.1 47)] (wr_code o) (fun u => lw_W g ws0 u (wr_st o) (wr_outL o out)) 2 12 := by
  refine ct_startW (by decide +kernel) (Nat.le_of_ble_eq_true rfl) (fun p e sv m args below meth c ls Q A H locs C0 htab hret hl hw => ?_)
  have hx := C0.1
  have hb := C0.2.1
  have hl : lv_has ls 5 [(0, .ref (g.2.1 0)), (1, .int a1), (2, .int a2), (3, .ref (g.2.1 47))] := hl
  refine lv_aload_n hx hb d_La_total_0 rfl (lv_at hl 3 rfl) ?_
  refine lv_iconst (v := 0) hx hb d_La_total_1 (by decide) ?_
  refine lv_aload_n hx hb d_La_total_2 rfl (lv_at hl 0 rfl) ?_
  refine lv_iload_n hx hb d_La_total_3 rfl (lv_at hl 1 rfl) ?_
  refine lv_iload_n hx hb d_La_total_4 rfl (lv_at hl 2 rfl) ?_
  refine ct_callVXl (ws := ws0) C0 hw hl.1 (q0 := 0) (hR.1 0 (by decide)) rfl (ct_giV wd_630 wd_631 wd_632 wd_1 wd_633) (fun sz => s_CT_total l g ws0 sz hR hl0 h) (nA := 2) (rm := rm_CT_total) (by decide +kernel) rfl ⟨rfl, rfl⟩ (by decide) (by decide) (As := [.int a1, .int a2]) (rest := [.int 0, .ref (g.2.1 47)]) rfl (Nat.le_of_ble_eq_true rfl) d_La_total_5 (fun E ce q9 ws1 H locs k9 s9 hw ho9 hE hp h1 h2 h3 => ?_) (fun r9 ws1 H locs s9 hw ho9 hp => ?_)
  · rcases hk k9 s9 ho9 with rfl | rfl | rfl
    · refine wr_catch1 C0 htab wd_200 wd_214 (by decide) hE h1 h2 h3 ?_
      refine lv_astore (lv' := [(4, .ref q9), (0, .ref (g.2.1 0)), (1, .int a1), (2, .int a2), (3, .ref (g.2.1 47))]) hx hb d_La_total_12 hl (by decide) rfl (fun ls hl => ?_)
      refine lv_iconst (v := 1) hx hb d_La_total_14 (by decide) ?_
      subst ho9
      exact hret hw (lw_W_keep h47 hp) rfl (by decide) (by decide) d_La_total_15
    · refine wr_catch2 C0 htab (by decide) wd_200 C0.2.2.2.2.2.1.2.2.2.2.2.2.2.2.1 wd_458 wd_499 (by decide) hE h1 h2 h3 ?_
      refine lv_astore (lv' := [(4, .ref q9), (0, .ref (g.2.1 0)), (1, .int a1), (2, .int a2), (3, .ref (g.2.1 47))]) hx hb d_La_total_16 hl (by decide) rfl (fun ls hl => ?_)
      refine lv_iconst (v := 2) hx hb d_La_total_18 (by decide) ?_
      subst ho9
      exact hret hw (lw_W_keep h47 hp) rfl (by decide) (by decide) d_La_total_19
    · refine wr_catch3 C0 htab wd_200 wd_458 wd_459 wd_515 (by decide) hE h1 h2 h3 ?_
      refine lv_astore (lv' := [(4, .ref q9), (0, .ref (g.2.1 0)), (1, .int a1), (2, .int a2), (3, .ref (g.2.1 47))]) hx hb d_La_total_20 hl (by decide) rfl (fun ls hl => ?_)
      refine lv_iconst (v := 3) hx hb d_La_total_22 (by decide) ?_
      subst ho9
      exact hret hw (lw_W_keep h47 hp) rfl (by decide) (by decide) d_La_total_23
  subst ho9
  refine va_last hx hb C0.2.2.2.2.2.1.1 hw.1 hw.2.1 hw.2.2 47 2 ((hp.2 47 (by decide)).trans h47) rfl (ct_inR_vp (by decide)) d_La_total_8 (fun H locs hP hD hS => ?_)
  refine lv_goto hx hb (tgt := 24) d_La_total_9 (by decide) ?_
  refine lv_iconst (v := 0) hx hb d_La_total_24 (by decide) ?_
  exact hret ⟨hP, hD, hS⟩ (lw_W_put h47 hp) rfl (by decide) (by decide) d_La_total_25
theorem d_La_marks_0 : decode c_La_marks 0 = .ok (.aload_n 2, 1) := by decide +kernel
theorem d_La_marks_1 : decode c_La_marks 1 = .ok (.iconst 0, 1) := by decide +kernel
theorem d_La_marks_2 : decode c_La_marks 2 = .ok (.aload_n 0, 1) := by decide +kernel
theorem d_La_marks_3 : decode c_La_marks 3 = .ok (.iload_n 1, 1) := by decide +kernel
theorem d_La_marks_4 : decode c_La_marks 4 = .ok (.invokevirtual 75, 3) := by decide +kernel
theorem d_La_marks_7 : decode c_La_marks 7 = .ok (.i2l, 1) := by decide +kernel
theorem d_La_marks_8 : decode c_La_marks 8 = .ok (.lastore, 1) := by decide +kernel
theorem d_La_marks_9 : decode c_La_marks 9 = .ok (.goto 6, 3) := by decide +kernel
theorem d_La_marks_12 : decode c_La_marks 12 = .ok (.astore_n 3, 1) := by decide +kernel
theorem d_La_marks_13 : decode c_La_marks 13 = .ok (.iconst 1, 1) := by decide +kernel
theorem d_La_marks_14 : decode c_La_marks 14 = .ok (.ireturn, 1) := by decide +kernel
theorem d_La_marks_15 : decode c_La_marks 15 = .ok (.iconst 0, 1) := by decide +kernel
theorem d_La_marks_16 : decode c_La_marks 16 = .ok (.ireturn, 1) := by decide +kernel
abbrev hh_La_marks : List (Nat × Nat × Nat × Nat) := [((0), (9), (12), (13))]
abbrev rm_La_marks : Room := { frames := 8, cells := 1, slots := 6, locals := 197 }
set_option maxHeartbeats 4000000 in
set_option maxRecDepth 100000 in
theorem w_La_marks (l : Launch) (g : Gx) (ws0 : va_W) (sz : Nat) {s : CS} {a1 : Int32} {o : (Nat × CS) ⊕ (Int32 × CS)} {out : Nat → Int64} (hR : cs_Rel g ws0 ws0 s) (h47 : ws0[47]? = some (g.2.1 47, .inl (g.2.2 2, 1, .inr (.inl out)))) (hl0 : l.stackTraces = false) (h : fn_CT_marks s a1 = some o) (hk : ∀ k s1, o = .inl (k, s1) → k = 1) : ct_MW l y_La_marks c_La_marks 4 hh_La_marks rm_La_marks g ws0 sz [.ref (g.2.1 0), .int a1, .ref (g.2.1 47)] (wr_code o) (fun u => lw_W g ws0 u (wr_st o) (wr_outI o out)) 1 6 := by
  refine ct_startW (by decide +kernel) (Nat.le_of_ble_eq_true rfl) (fun p e sv m args below meth c ls Q A H locs C0 htab hret hl hw => ?_)
  have hx := C0.1
  have hb := C0.2.1
  have hl : lv_has ls 4 [(0, .ref (g.2.1 0)), (1, .int a1), (2, .ref (g.2.1 47))] := hl
  refine lv_aload_n hx hb d_La_marks_0 rfl (lv_at hl 2 rfl) ?_
  refine lv_iconst (v := 0) hx hb d_La_marks_1 (by decide) ?_
  refine lv_aload_n hx hb d_La_marks_2 rfl (lv_at hl 0 rfl) ?_
  refine lv_iload_n hx hb d_La_marks_3 rfl (lv_at hl 1 rfl) ?_
  refine ct_callVXi (ws := ws0) C0 hw hl.1 (q0 := 0) (hR.1 0 (by decide)) rfl (ct_giV wd_642 wd_643 wd_644 wd_1 wd_645) (fun sz => s_CT_marks l g ws0 sz hR hl0 h) (nA := 1) (rm := rm_CT_marks) (by decide +kernel) rfl ⟨rfl, rfl⟩ (by decide) (by decide) (As := [.int a1]) (rest := [.int 0, .ref (g.2.1 47)]) rfl (Nat.le_of_ble_eq_true rfl) d_La_marks_4 (fun E ce q9 ws1 H locs k9 s9 hw ho9 hE hp h1 h2 h3 => ?_) (fun r9 ws1 H locs s9 hw ho9 hp => ?_)
  · rcases hk k9 s9 ho9 with rfl
    · refine wr_catch1 C0 htab wd_200 wd_214 (by decide) hE h1 h2 h3 ?_
      refine lv_astore_n (lv' := [(3, .ref q9), (0, .ref (g.2.1 0)), (1, .int a1), (2, .ref (g.2.1 47))]) hx hb d_La_marks_12 rfl hl (by decide) rfl (fun ls hl => ?_)
      refine lv_iconst (v := 1) hx hb d_La_marks_13 (by decide) ?_
      subst ho9
      exact hret hw (lw_W_keep h47 hp) rfl (by decide) (by decide) d_La_marks_14
  refine lv_i2l hx hb d_La_marks_7 rfl ?_
  subst ho9
  refine va_last hx hb C0.2.2.2.2.2.1.1 hw.1 hw.2.1 hw.2.2 47 2 ((hp.2 47 (by decide)).trans h47) rfl (ct_inR_vp (by decide)) d_La_marks_8 (fun H locs hP hD hS => ?_)
  refine lv_goto hx hb (tgt := 15) d_La_marks_9 (by decide) ?_
  refine lv_iconst (v := 0) hx hb d_La_marks_15 (by decide) ?_
  exact hret ⟨hP, hD, hS⟩ (lw_W_put h47 hp) rfl (by decide) (by decide) d_La_marks_16
theorem d_La_deviation_0 : decode c_La_deviation 0 = .ok (.aload_n 3, 1) := by decide +kernel
theorem d_La_deviation_1 : decode c_La_deviation 1 = .ok (.iconst 0, 1) := by decide +kernel
theorem d_La_deviation_2 : decode c_La_deviation 2 = .ok (.aload_n 0, 1) := by decide +kernel
theorem d_La_deviation_3 : decode c_La_deviation 3 = .ok (.iload_n 1, 1) := by decide +kernel
theorem d_La_deviation_4 : decode c_La_deviation 4 = .ok (.iload_n 2, 1) := by decide +kernel
theorem d_La_deviation_5 : decode c_La_deviation 5 = .ok (.invokevirtual 78, 3) := by decide +kernel
theorem d_La_deviation_8 : decode c_La_deviation 8 = .ok (.lastore, 1) := by decide +kernel
theorem d_La_deviation_9 : decode c_La_deviation 9 = .ok (.goto 15, 3) := by decide +kernel
theorem d_La_deviation_12 : decode c_La_deviation 12 = .ok (.astore 4, 2) := by decide +kernel
theorem d_La_deviation_14 : decode c_La_deviation 14 = .ok (.iconst 1, 1) := by decide +kernel
theorem d_La_deviation_15 : decode c_La_deviation 15 = .ok (.ireturn, 1) := by decide +kernel
theorem d_La_deviation_16 : decode c_La_deviation 16 = .ok (.astore 4, 2) := by decide +kernel
theorem d_La_deviation_18 : decode c_La_deviation 18 = .ok (.iconst 2, 1) := by decide +kernel
theorem d_La_deviation_19 : decode c_La_deviation 19 = .ok (.ireturn, 1) := by decide +kernel
theorem d_La_deviation_20 : decode c_La_deviation 20 = .ok (.astore 4, 2) := by decide +kernel
theorem d_La_deviation_22 : decode c_La_deviation 22 = .ok (.iconst 3, 1) := by decide +kernel
theorem d_La_deviation_23 : decode c_La_deviation 23 = .ok (.ireturn, 1) := by decide +kernel
theorem d_La_deviation_24 : decode c_La_deviation 24 = .ok (.iconst 0, 1) := by decide +kernel
theorem d_La_deviation_25 : decode c_La_deviation 25 = .ok (.ireturn, 1) := by decide +kernel
abbrev hh_La_deviation : List (Nat × Nat × Nat × Nat) := [((0), (9), (12), (13)), ((0), (9), (16), (57)), ((0), (9), (20), (59))]
abbrev rm_La_deviation : Room := { frames := 9, cells := 2, slots := 12, locals := 155 }
set_option maxHeartbeats 4000000 in
set_option maxRecDepth 100000 in
theorem w_La_deviation (l : Launch) (g : Gx) (ws0 : va_W) (sz : Nat) {s : CS} {a1 : Int32} {a2 : Int32} {o : (Nat × CS) ⊕ (Int64 × CS)} {out : Nat → Int64} (hR : cs_Rel g ws0 ws0 s) (h47 : ws0[47]? = some (g.2.1 47, .inl (g.2.2 2, 1, .inr (.inl out)))) (hl0 : l.stackTraces = false) (h : fn_CT_deviation s a1 a2 = some o) (hk : ∀ k s1, o = .inl (k, s1) → k = 1 ∨ k = 3 ∨ k = 4) : ct_MW l y_La_deviation c_La_deviation 5 hh_La_deviation rm_La_deviation g ws0 sz [.ref (g.2.1 0), .int a1, .int a2, .ref (g.2.1 47)] (wr_code o) (fun u => lw_W g ws0 u (wr_st o) (wr_outL o out)) 2 12 := by
  refine ct_startW (by decide +kernel) (Nat.le_of_ble_eq_true rfl) (fun p e sv m args below meth c ls Q A H locs C0 htab hret hl hw => ?_)
  have hx := C0.1
  have hb := C0.2.1
  have hl : lv_has ls 5 [(0, .ref (g.2.1 0)), (1, .int a1), (2, .int a2), (3, .ref (g.2.1 47))] := hl
  refine lv_aload_n hx hb d_La_deviation_0 rfl (lv_at hl 3 rfl) ?_
  refine lv_iconst (v := 0) hx hb d_La_deviation_1 (by decide) ?_
  refine lv_aload_n hx hb d_La_deviation_2 rfl (lv_at hl 0 rfl) ?_
  refine lv_iload_n hx hb d_La_deviation_3 rfl (lv_at hl 1 rfl) ?_
  refine lv_iload_n hx hb d_La_deviation_4 rfl (lv_at hl 2 rfl) ?_
  refine ct_callVXl (ws := ws0) C0 hw hl.1 (q0 := 0) (hR.1 0 (by decide)) rfl (ct_giV wd_653 wd_654 wd_655 wd_1 wd_656) (fun sz => s_CT_deviation l g ws0 sz hR hl0 h) (nA := 2) (rm := rm_CT_deviation) (by decide +kernel) rfl ⟨rfl, rfl⟩ (by decide) (by decide) (As := [.int a1, .int a2]) (rest := [.int 0, .ref (g.2.1 47)]) rfl (Nat.le_of_ble_eq_true rfl) d_La_deviation_5 (fun E ce q9 ws1 H locs k9 s9 hw ho9 hE hp h1 h2 h3 => ?_) (fun r9 ws1 H locs s9 hw ho9 hp => ?_)
  · rcases hk k9 s9 ho9 with rfl | rfl | rfl
    · refine wr_catch1 C0 htab wd_200 wd_214 (by decide) hE h1 h2 h3 ?_
      refine lv_astore (lv' := [(4, .ref q9), (0, .ref (g.2.1 0)), (1, .int a1), (2, .int a2), (3, .ref (g.2.1 47))]) hx hb d_La_deviation_12 hl (by decide) rfl (fun ls hl => ?_)
      refine lv_iconst (v := 1) hx hb d_La_deviation_14 (by decide) ?_
      subst ho9
      exact hret hw (lw_W_keep h47 hp) rfl (by decide) (by decide) d_La_deviation_15
    · refine wr_catch2 C0 htab (by decide) wd_200 C0.2.2.2.2.2.1.2.2.2.2.2.2.2.2.1 wd_458 wd_499 (by decide) hE h1 h2 h3 ?_
      refine lv_astore (lv' := [(4, .ref q9), (0, .ref (g.2.1 0)), (1, .int a1), (2, .int a2), (3, .ref (g.2.1 47))]) hx hb d_La_deviation_16 hl (by decide) rfl (fun ls hl => ?_)
      refine lv_iconst (v := 2) hx hb d_La_deviation_18 (by decide) ?_
      subst ho9
      exact hret hw (lw_W_keep h47 hp) rfl (by decide) (by decide) d_La_deviation_19
    · refine wr_catch3 C0 htab wd_200 wd_458 wd_459 wd_515 (by decide) hE h1 h2 h3 ?_
      refine lv_astore (lv' := [(4, .ref q9), (0, .ref (g.2.1 0)), (1, .int a1), (2, .int a2), (3, .ref (g.2.1 47))]) hx hb d_La_deviation_20 hl (by decide) rfl (fun ls hl => ?_)
      refine lv_iconst (v := 3) hx hb d_La_deviation_22 (by decide) ?_
      subst ho9
      exact hret hw (lw_W_keep h47 hp) rfl (by decide) (by decide) d_La_deviation_23
  subst ho9
  refine va_last hx hb C0.2.2.2.2.2.1.1 hw.1 hw.2.1 hw.2.2 47 2 ((hp.2 47 (by decide)).trans h47) rfl (ct_inR_vp (by decide)) d_La_deviation_8 (fun H locs hP hD hS => ?_)
  refine lv_goto hx hb (tgt := 24) d_La_deviation_9 (by decide) ?_
  refine lv_iconst (v := 0) hx hb d_La_deviation_24 (by decide) ?_
  exact hret ⟨hP, hD, hS⟩ (lw_W_put h47 hp) rfl (by decide) (by decide) d_La_deviation_25
theorem d_La_error_0 : decode c_La_error 0 = .ok (.aload 4, 2) := by decide +kernel
theorem d_La_error_2 : decode c_La_error 2 = .ok (.iconst 0, 1) := by decide +kernel
theorem d_La_error_3 : decode c_La_error 3 = .ok (.aload_n 0, 1) := by decide +kernel
theorem d_La_error_4 : decode c_La_error 4 = .ok (.iload_n 1, 1) := by decide +kernel
theorem d_La_error_5 : decode c_La_error 5 = .ok (.iload_n 2, 1) := by decide +kernel
theorem d_La_error_6 : decode c_La_error 6 = .ok (.iload_n 3, 1) := by decide +kernel
theorem d_La_error_7 : decode c_La_error 7 = .ok (.invokevirtual 81, 3) := by decide +kernel
theorem d_La_error_10 : decode c_La_error 10 = .ok (.lastore, 1) := by decide +kernel
theorem d_La_error_11 : decode c_La_error 11 = .ok (.goto 15, 3) := by decide +kernel
theorem d_La_error_14 : decode c_La_error 14 = .ok (.astore 5, 2) := by decide +kernel
theorem d_La_error_16 : decode c_La_error 16 = .ok (.iconst 1, 1) := by decide +kernel
theorem d_La_error_17 : decode c_La_error 17 = .ok (.ireturn, 1) := by decide +kernel
theorem d_La_error_18 : decode c_La_error 18 = .ok (.astore 5, 2) := by decide +kernel
theorem d_La_error_20 : decode c_La_error 20 = .ok (.iconst 2, 1) := by decide +kernel
theorem d_La_error_21 : decode c_La_error 21 = .ok (.ireturn, 1) := by decide +kernel
theorem d_La_error_22 : decode c_La_error 22 = .ok (.astore 5, 2) := by decide +kernel
theorem d_La_error_24 : decode c_La_error 24 = .ok (.iconst 3, 1) := by decide +kernel
theorem d_La_error_25 : decode c_La_error 25 = .ok (.ireturn, 1) := by decide +kernel
theorem d_La_error_26 : decode c_La_error 26 = .ok (.iconst 0, 1) := by decide +kernel
theorem d_La_error_27 : decode c_La_error 27 = .ok (.ireturn, 1) := by decide +kernel
abbrev hh_La_error : List (Nat × Nat × Nat × Nat) := [((0), (11), (14), (13)), ((0), (11), (18), (57)), ((0), (11), (22), (59))]
abbrev rm_La_error : Room := { frames := 9, cells := 2, slots := 12, locals := 155 }
set_option maxHeartbeats 4000000 in
set_option maxRecDepth 100000 in
theorem w_La_error (l : Launch) (g : Gx) (ws0 : va_W) (sz : Nat) {s : CS} {a1 : Int32} {a2 : Int32} {a3 : Int32} {o : (Nat × CS) ⊕ (Int64 × CS)} {out : Nat → Int64} (hR : cs_Rel g ws0 ws0 s) (h47 : ws0[47]? = some (g.2.1 47, .inl (g.2.2 2, 1, .inr (.inl out)))) (hl0 : l.stackTraces = false) (h : fn_CT_error s a1 a2 a3 = some o) (hk : ∀ k s1, o = .inl (k, s1) → k = 1 ∨ k = 3 ∨ k = 4) : ct_MW l y_La_error c_La_error 6 hh_La_error rm_La_error g ws0 sz [.ref (g.2.1 0), .int a1, .int a2, .int a3, .ref (g.2.1 47)] (wr_code o) (fun u => lw_W g ws0 u (wr_st o) (wr_outL o out)) 2 12 := by
  refine ct_startW (by decide +kernel) (Nat.le_of_ble_eq_true rfl) (fun p e sv m args below meth c ls Q A H locs C0 htab hret hl hw => ?_)
  have hx := C0.1
  have hb := C0.2.1
  have hl : lv_has ls 6 [(0, .ref (g.2.1 0)), (1, .int a1), (2, .int a2), (3, .int a3), (4, .ref (g.2.1 47))] := hl
  refine lv_aload hx hb d_La_error_0 (lv_at hl 4 rfl) ?_
  refine lv_iconst (v := 0) hx hb d_La_error_2 (by decide) ?_
  refine lv_aload_n hx hb d_La_error_3 rfl (lv_at hl 0 rfl) ?_
  refine lv_iload_n hx hb d_La_error_4 rfl (lv_at hl 1 rfl) ?_
  refine lv_iload_n hx hb d_La_error_5 rfl (lv_at hl 2 rfl) ?_
  refine lv_iload_n hx hb d_La_error_6 rfl (lv_at hl 3 rfl) ?_
  refine ct_callVXl (ws := ws0) C0 hw hl.1 (q0 := 0) (hR.1 0 (by decide)) rfl (ct_giV wd_669 wd_670 wd_671 wd_1 wd_672) (fun sz => s_CT_error l g ws0 sz hR hl0 h) (nA := 3) (rm := rm_CT_error) (by decide +kernel) rfl ⟨rfl, rfl⟩ (by decide) (by decide) (As := [.int a1, .int a2, .int a3]) (rest := [.int 0, .ref (g.2.1 47)]) rfl (Nat.le_of_ble_eq_true rfl) d_La_error_7 (fun E ce q9 ws1 H locs k9 s9 hw ho9 hE hp h1 h2 h3 => ?_) (fun r9 ws1 H locs s9 hw ho9 hp => ?_)
  · rcases hk k9 s9 ho9 with rfl | rfl | rfl
    · refine wr_catch1 C0 htab wd_200 wd_214 (by decide) hE h1 h2 h3 ?_
      refine lv_astore (lv' := [(5, .ref q9), (0, .ref (g.2.1 0)), (1, .int a1), (2, .int a2), (3, .int a3), (4, .ref (g.2.1 47))]) hx hb d_La_error_14 hl (by decide) rfl (fun ls hl => ?_)
      refine lv_iconst (v := 1) hx hb d_La_error_16 (by decide) ?_
      subst ho9
      exact hret hw (lw_W_keep h47 hp) rfl (by decide) (by decide) d_La_error_17
    · refine wr_catch2 C0 htab (by decide) wd_200 C0.2.2.2.2.2.1.2.2.2.2.2.2.2.2.1 wd_458 wd_499 (by decide) hE h1 h2 h3 ?_
      refine lv_astore (lv' := [(5, .ref q9), (0, .ref (g.2.1 0)), (1, .int a1), (2, .int a2), (3, .int a3), (4, .ref (g.2.1 47))]) hx hb d_La_error_18 hl (by decide) rfl (fun ls hl => ?_)
      refine lv_iconst (v := 2) hx hb d_La_error_20 (by decide) ?_
      subst ho9
      exact hret hw (lw_W_keep h47 hp) rfl (by decide) (by decide) d_La_error_21
    · refine wr_catch3 C0 htab wd_200 wd_458 wd_459 wd_515 (by decide) hE h1 h2 h3 ?_
      refine lv_astore (lv' := [(5, .ref q9), (0, .ref (g.2.1 0)), (1, .int a1), (2, .int a2), (3, .int a3), (4, .ref (g.2.1 47))]) hx hb d_La_error_22 hl (by decide) rfl (fun ls hl => ?_)
      refine lv_iconst (v := 3) hx hb d_La_error_24 (by decide) ?_
      subst ho9
      exact hret hw (lw_W_keep h47 hp) rfl (by decide) (by decide) d_La_error_25
  subst ho9
  refine va_last hx hb C0.2.2.2.2.2.1.1 hw.1 hw.2.1 hw.2.2 47 2 ((hp.2 47 (by decide)).trans h47) rfl (ct_inR_vp (by decide)) d_La_error_10 (fun H locs hP hD hS => ?_)
  refine lv_goto hx hb (tgt := 26) d_La_error_11 (by decide) ?_
  refine lv_iconst (v := 0) hx hb d_La_error_26 (by decide) ?_
  exact hret ⟨hP, hD, hS⟩ (lw_W_put h47 hp) rfl (by decide) (by decide) d_La_error_27
theorem d_La_diagonal_0 : decode c_La_diagonal 0 = .ok (.aload_n 2, 1) := by decide +kernel
theorem d_La_diagonal_1 : decode c_La_diagonal 1 = .ok (.iconst 0, 1) := by decide +kernel
theorem d_La_diagonal_2 : decode c_La_diagonal 2 = .ok (.aload_n 0, 1) := by decide +kernel
theorem d_La_diagonal_3 : decode c_La_diagonal 3 = .ok (.iload_n 1, 1) := by decide +kernel
theorem d_La_diagonal_4 : decode c_La_diagonal 4 = .ok (.invokevirtual 84, 3) := by decide +kernel
theorem d_La_diagonal_7 : decode c_La_diagonal 7 = .ok (.i2l, 1) := by decide +kernel
theorem d_La_diagonal_8 : decode c_La_diagonal 8 = .ok (.lastore, 1) := by decide +kernel
theorem d_La_diagonal_9 : decode c_La_diagonal 9 = .ok (.goto 6, 3) := by decide +kernel
theorem d_La_diagonal_12 : decode c_La_diagonal 12 = .ok (.astore_n 3, 1) := by decide +kernel
theorem d_La_diagonal_13 : decode c_La_diagonal 13 = .ok (.iconst 1, 1) := by decide +kernel
theorem d_La_diagonal_14 : decode c_La_diagonal 14 = .ok (.ireturn, 1) := by decide +kernel
theorem d_La_diagonal_15 : decode c_La_diagonal 15 = .ok (.iconst 0, 1) := by decide +kernel
theorem d_La_diagonal_16 : decode c_La_diagonal 16 = .ok (.ireturn, 1) := by decide +kernel
abbrev hh_La_diagonal : List (Nat × Nat × Nat × Nat) := [((0), (9), (12), (13))]
abbrev rm_La_diagonal : Room := { frames := 8, cells := 1, slots := 6, locals := 131 }
set_option maxHeartbeats 4000000 in
set_option maxRecDepth 100000 in
theorem w_La_diagonal (l : Launch) (g : Gx) (ws0 : va_W) (sz : Nat) {s : CS} {a1 : Int32} {o : (Nat × CS) ⊕ (Int32 × CS)} {out : Nat → Int64} (hR : cs_Rel g ws0 ws0 s) (h47 : ws0[47]? = some (g.2.1 47, .inl (g.2.2 2, 1, .inr (.inl out)))) (hl0 : l.stackTraces = false) (h : fn_CT_diagonal s a1 = some o) (hk : ∀ k s1, o = .inl (k, s1) → k = 1) : ct_MW l y_La_diagonal c_La_diagonal 4 hh_La_diagonal rm_La_diagonal g ws0 sz [.ref (g.2.1 0), .int a1, .ref (g.2.1 47)] (wr_code o) (fun u => lw_W g ws0 u (wr_st o) (wr_outI o out)) 1 6 := by
  refine ct_startW (by decide +kernel) (Nat.le_of_ble_eq_true rfl) (fun p e sv m args below meth c ls Q A H locs C0 htab hret hl hw => ?_)
  have hx := C0.1
  have hb := C0.2.1
  have hl : lv_has ls 4 [(0, .ref (g.2.1 0)), (1, .int a1), (2, .ref (g.2.1 47))] := hl
  refine lv_aload_n hx hb d_La_diagonal_0 rfl (lv_at hl 2 rfl) ?_
  refine lv_iconst (v := 0) hx hb d_La_diagonal_1 (by decide) ?_
  refine lv_aload_n hx hb d_La_diagonal_2 rfl (lv_at hl 0 rfl) ?_
  refine lv_iload_n hx hb d_La_diagonal_3 rfl (lv_at hl 1 rfl) ?_
  refine ct_callVXi (ws := ws0) C0 hw hl.1 (q0 := 0) (hR.1 0 (by decide)) rfl (ct_giV wd_680 wd_681 wd_682 wd_1 wd_683) (fun sz => s_CT_diagonal l g ws0 sz hR hl0 h) (nA := 1) (rm := rm_CT_diagonal) (by decide +kernel) rfl ⟨rfl, rfl⟩ (by decide) (by decide) (As := [.int a1]) (rest := [.int 0, .ref (g.2.1 47)]) rfl (Nat.le_of_ble_eq_true rfl) d_La_diagonal_4 (fun E ce q9 ws1 H locs k9 s9 hw ho9 hE hp h1 h2 h3 => ?_) (fun r9 ws1 H locs s9 hw ho9 hp => ?_)
  · rcases hk k9 s9 ho9 with rfl
    · refine wr_catch1 C0 htab wd_200 wd_214 (by decide) hE h1 h2 h3 ?_
      refine lv_astore_n (lv' := [(3, .ref q9), (0, .ref (g.2.1 0)), (1, .int a1), (2, .ref (g.2.1 47))]) hx hb d_La_diagonal_12 rfl hl (by decide) rfl (fun ls hl => ?_)
      refine lv_iconst (v := 1) hx hb d_La_diagonal_13 (by decide) ?_
      subst ho9
      exact hret hw (lw_W_keep h47 hp) rfl (by decide) (by decide) d_La_diagonal_14
  refine lv_i2l hx hb d_La_diagonal_7 rfl ?_
  subst ho9
  refine va_last hx hb C0.2.2.2.2.2.1.1 hw.1 hw.2.1 hw.2.2 47 2 ((hp.2 47 (by decide)).trans h47) rfl (ct_inR_vp (by decide)) d_La_diagonal_8 (fun H locs hP hD hS => ?_)
  refine lv_goto hx hb (tgt := 15) d_La_diagonal_9 (by decide) ?_
  refine lv_iconst (v := 0) hx hb d_La_diagonal_15 (by decide) ?_
  exact hret ⟨hP, hD, hS⟩ (lw_W_put h47 hp) rfl (by decide) (by decide) d_La_diagonal_16
theorem d_La_count_0 : decode c_La_count 0 = .ok (.aload_n 2, 1) := by decide +kernel
theorem d_La_count_1 : decode c_La_count 1 = .ok (.iconst 0, 1) := by decide +kernel
theorem d_La_count_2 : decode c_La_count 2 = .ok (.aload_n 0, 1) := by decide +kernel
theorem d_La_count_3 : decode c_La_count 3 = .ok (.iload_n 1, 1) := by decide +kernel
theorem d_La_count_4 : decode c_La_count 4 = .ok (.invokevirtual 87, 3) := by decide +kernel
theorem d_La_count_7 : decode c_La_count 7 = .ok (.i2l, 1) := by decide +kernel
theorem d_La_count_8 : decode c_La_count 8 = .ok (.lastore, 1) := by decide +kernel
theorem d_La_count_9 : decode c_La_count 9 = .ok (.goto 6, 3) := by decide +kernel
theorem d_La_count_12 : decode c_La_count 12 = .ok (.astore_n 3, 1) := by decide +kernel
theorem d_La_count_13 : decode c_La_count 13 = .ok (.iconst 1, 1) := by decide +kernel
theorem d_La_count_14 : decode c_La_count 14 = .ok (.ireturn, 1) := by decide +kernel
theorem d_La_count_15 : decode c_La_count 15 = .ok (.iconst 0, 1) := by decide +kernel
theorem d_La_count_16 : decode c_La_count 16 = .ok (.ireturn, 1) := by decide +kernel
abbrev hh_La_count : List (Nat × Nat × Nat × Nat) := [((0), (9), (12), (13))]
abbrev rm_La_count : Room := { frames := 7, cells := 1, slots := 6, locals := 111 }
set_option maxHeartbeats 4000000 in
set_option maxRecDepth 100000 in
theorem w_La_count (l : Launch) (g : Gx) (ws0 : va_W) (sz : Nat) {s : CS} {a1 : Int32} {o : (Nat × CS) ⊕ (Int32 × CS)} {out : Nat → Int64} (hR : cs_Rel g ws0 ws0 s) (h47 : ws0[47]? = some (g.2.1 47, .inl (g.2.2 2, 1, .inr (.inl out)))) (hl0 : l.stackTraces = false) (h : fn_CT_count s a1 = some o) (hk : ∀ k s1, o = .inl (k, s1) → k = 1) : ct_MW l y_La_count c_La_count 4 hh_La_count rm_La_count g ws0 sz [.ref (g.2.1 0), .int a1, .ref (g.2.1 47)] (wr_code o) (fun u => lw_W g ws0 u (wr_st o) (wr_outI o out)) 1 6 := by
  refine ct_startW (by decide +kernel) (Nat.le_of_ble_eq_true rfl) (fun p e sv m args below meth c ls Q A H locs C0 htab hret hl hw => ?_)
  have hx := C0.1
  have hb := C0.2.1
  have hl : lv_has ls 4 [(0, .ref (g.2.1 0)), (1, .int a1), (2, .ref (g.2.1 47))] := hl
  refine lv_aload_n hx hb d_La_count_0 rfl (lv_at hl 2 rfl) ?_
  refine lv_iconst (v := 0) hx hb d_La_count_1 (by decide) ?_
  refine lv_aload_n hx hb d_La_count_2 rfl (lv_at hl 0 rfl) ?_
  refine lv_iload_n hx hb d_La_count_3 rfl (lv_at hl 1 rfl) ?_
  refine ct_callVXi (ws := ws0) C0 hw hl.1 (q0 := 0) (hR.1 0 (by decide)) rfl (ct_giV wd_691 wd_692 wd_693 wd_1 wd_694) (fun sz => s_CT_count l g ws0 sz hR hl0 h) (nA := 1) (rm := rm_CT_count) (by decide +kernel) rfl ⟨rfl, rfl⟩ (by decide) (by decide) (As := [.int a1]) (rest := [.int 0, .ref (g.2.1 47)]) rfl (Nat.le_of_ble_eq_true rfl) d_La_count_4 (fun E ce q9 ws1 H locs k9 s9 hw ho9 hE hp h1 h2 h3 => ?_) (fun r9 ws1 H locs s9 hw ho9 hp => ?_)
  · rcases hk k9 s9 ho9 with rfl
    · refine wr_catch1 C0 htab wd_200 wd_214 (by decide) hE h1 h2 h3 ?_
      refine lv_astore_n (lv' := [(3, .ref q9), (0, .ref (g.2.1 0)), (1, .int a1), (2, .ref (g.2.1 47))]) hx hb d_La_count_12 rfl hl (by decide) rfl (fun ls hl => ?_)
      refine lv_iconst (v := 1) hx hb d_La_count_13 (by decide) ?_
      subst ho9
      exact hret hw (lw_W_keep h47 hp) rfl (by decide) (by decide) d_La_count_14
  refine lv_i2l hx hb d_La_count_7 rfl ?_
  subst ho9
  refine va_last hx hb C0.2.2.2.2.2.1.1 hw.1 hw.2.1 hw.2.2 47 2 ((hp.2 47 (by decide)).trans h47) rfl (ct_inR_vp (by decide)) d_La_count_8 (fun H locs hP hD hS => ?_)
  refine lv_goto hx hb (tgt := 15) d_La_count_9 (by decide) ?_
  refine lv_iconst (v := 0) hx hb d_La_count_15 (by decide) ?_
  exact hret ⟨hP, hD, hS⟩ (lw_W_put h47 hp) rfl (by decide) (by decide) d_La_count_16
