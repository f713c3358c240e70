theorem dl_1569 : decode code 1569 = .ok (.aload_n 1, 1) := by decide +kernel
theorem dl_1570 : decode code 1570 = .ok (.aload_n 0, 1) := by decide +kernel
theorem dl_1571 : decode code 1571 = .ok (.iload 4, 2) := by decide +kernel
theorem dl_1573 : decode code 1573 = .ok (.iconst 1, 1) := by decide +kernel
theorem dl_1574 : decode code 1574 = .ok (.iadd, 1) := by decide +kernel
theorem dl_1575 : decode code 1575 = .ok (.iaload, 1) := by decide +kernel
theorem dl_1576 : decode code 1576 = .ok (.aload_n 3, 1) := by decide +kernel
theorem dl_1577 : decode code 1577 = .ok (.invokestatic 165, 3) := by decide +kernel
theorem dl_1580 : decode code 1580 = .ok (.istore 5, 2) := by decide +kernel
theorem dl_1582 : decode code 1582 = .ok (.aload_n 2, 1) := by decide +kernel
theorem dl_1583 : decode code 1583 = .ok (.aload_n 0, 1) := by decide +kernel
theorem dl_1584 : decode code 1584 = .ok (.iload 4, 2) := by decide +kernel
theorem dl_1586 : decode code 1586 = .ok (.iconst 1, 1) := by decide +kernel
theorem dl_1587 : decode code 1587 = .ok (.iadd, 1) := by decide +kernel
theorem dl_1588 : decode code 1588 = .ok (.iaload, 1) := by decide +kernel
theorem dl_1589 : decode code 1589 = .ok (.invokevirtual 167, 3) := by decide +kernel
theorem dl_1592 : decode code 1592 = .ok (.istore 6, 2) := by decide +kernel
theorem dl_1594 : decode code 1594 = .ok (.aload_n 2, 1) := by decide +kernel
theorem dl_1595 : decode code 1595 = .ok (.invokevirtual 100, 3) := by decide +kernel
theorem dl_1598 : decode code 1598 = .ok (.iload 5, 2) := by decide +kernel
theorem dl_1600 : decode code 1600 = .ok (.if_icmp .eq 5, 3) := by decide +kernel
theorem dl_1603 : decode code 1603 = .ok (.iconst 0, 1) := by decide +kernel
theorem dl_1604 : decode code 1604 = .ok (.ireturn, 1) := by decide +kernel
theorem dl_1605 : decode code 1605 = .ok (.iload 5, 2) := by decide +kernel
theorem dl_1607 : decode code 1607 = .ok (.ifCond .ne 15, 3) := by decide +kernel
theorem dl_1610 : decode code 1610 = .ok (.aload_n 3, 1) := by decide +kernel
theorem dl_1611 : decode code 1611 = .ok (.iconst 0, 1) := by decide +kernel
theorem dl_1612 : decode code 1612 = .ok (.laload, 1) := by decide +kernel
theorem dl_1613 : decode code 1613 = .ok (.iload 6, 2) := by decide +kernel
theorem dl_1615 : decode code 1615 = .ok (.i2l, 1) := by decide +kernel
theorem dl_1616 : decode code 1616 = .ok (.lcmp, 1) := by decide +kernel
theorem dl_1617 : decode code 1617 = .ok (.ifCond .eq 5, 3) := by decide +kernel
theorem dl_1620 : decode code 1620 = .ok (.iconst 0, 1) := by decide +kernel
theorem dl_1621 : decode code 1621 = .ok (.ireturn, 1) := by decide +kernel
theorem dl_1622 : decode code 1622 = .ok (.goto 59, 3) := by decide +kernel
set_option maxHeartbeats 4000000 in
set_option maxRecDepth 100000 in
theorem lc_19 {Iv : CS → MS → Prop} (P : PP_diagonal Iv) {p : Program} {l : Launch} {e : Env} {sv : State} {m : MethodId} {args : Array Value} {below : List Frame} {meth : Method} {c : Code} {Q : State → Prop} {b L : Nat} {xs : Nat → Int32} {g : Gx} {A : Nat → Prop} (hl0 : l.stackTraces = false) (C0 : ct_Cx R_La code 8 p sv m args meth c g A) (hX : va_X b L xs sv sv.heap) (hbl : b < sv.heap.size) (hbA : ¬ A b) {i : Int32} (hi : vp_in i L ∧ vp_in (i + 1) L ∧ vp_in (i + 2) L ∧ vp_in (i + 3) L ∧ vp_in (i + 4) L) {ws : va_W} {H : Heap} {locs : List Loc} {cells slots : Nat} {s : CS} {t : MS} {out : Nat → Int64} {ls : Array Slot} (hw : ct_Wd g A sv ws H locs) (hW : LWd g ws s t out) (hI : Iv s t) (hl : lv_has ls 8 [(4, .int i), (0, .ref b), (1, .ref (g.2.1 0)), (2, .ref (g.2.1 35)), (3, .ref (g.2.1 47))]) (hc : cells + 20 ≤ 601024) (hs : slots + 120 ≤ 7293034)
    (kk : ∀ (ws : va_W) (H : Heap) (locs : List Loc) (cells1 slots1 : Nat) (s : CS) (t : MS) (out : Nat → Int64) (ls : Array Slot), ct_Wd g A sv ws H locs → LWd g ws s t out → Iv s t → lv_has ls 8 [(4, .int i), (0, .ref b), (1, .ref (g.2.1 0)), (2, .ref (g.2.1 35)), (3, .ref (g.2.1 47))] → cells1 ≤ cells + 20 → slots1 ≤ slots + 120 → W p l e room_1 sv m args below meth c H locs cells1 slots1 Q (F0 m 1681 ls [])) : W p l e room_1 sv m args below meth c H locs cells slots Q (F0 m 1569 ls []) := by
  have hx := C0.1
  have hb := C0.2.1
  refine lv_aload_n hx hb dl_1569 rfl (lv_at hl 2 rfl) ?_
  refine lv_aload_n hx hb dl_1570 rfl (lv_at hl 1 rfl) ?_
  refine lv_iload hx hb dl_1571 (lv_at hl 0 rfl) ?_
  refine lv_iconst (v := 1) hx hb dl_1573 (by decide) ?_
  refine lv_iadd hx hb dl_1574 ?_
  refine va_sld hx hb hX hbl hbA hw.2.2 hi.2.1 dl_1575 ?_
  refine lv_aload_n hx hb dl_1576 rfl (lv_at hl 4 rfl) ?_
  obtain ⟨o9, r9, t9, e1, e2, hk, hth, hI, hv⟩ := P s t hI (xs (i + 1).toNatClampNeg)
  refine ct_callW (hh := hh_La_diagonal) C0 hw hl.1 wd_677 wd_678 wd_0 wd_679 (fun sz => w_La_diagonal l g ws sz hW.cs hW.2.2 hl0 e1 hk) (nA := 3) (rm := rm_La_diagonal) (by decide +kernel) rfl ⟨rfl, rfl⟩ (by decide) ⟨by show cells + 1 ≤ 601024; omega, by show slots + 6 ≤ 7293034; omega⟩ (As := [.ref (g.2.1 0), .int (xs (i + 1).toNatClampNeg), .ref (g.2.1 47)]) (rest := []) rfl (Nat.le_of_ble_eq_true rfl) dl_1577 (fun ws H locs hw hp => ?_)
  have hW := hW.wr hp
  clear hp
  refine lv_istore (lv' := [(5, .int (wr_code o9)), (4, .int i), (0, .ref b), (1, .ref (g.2.1 0)), (2, .ref (g.2.1 35)), (3, .ref (g.2.1 47))]) hx hb dl_1580 hl (by decide) rfl (fun ls hl => ?_)
  refine lv_aload_n hx hb dl_1582 rfl (lv_at hl 4 rfl) ?_
  refine lv_aload_n hx hb dl_1583 rfl (lv_at hl 2 rfl) ?_
  refine lv_iload hx hb dl_1584 (lv_at hl 1 rfl) ?_
  refine lv_iconst (v := 1) hx hb dl_1586 (by decide) ?_
  refine lv_iadd hx hb dl_1587 ?_
  refine va_sld hx hb hX hbl hbA hw.2.2 hi.2.1 dl_1588 ?_
  refine ct_callVi C0 hw hl.1 (q0 := 35) (hW.2.1 35 (by decide) (by decide)) rfl (ct_giV wd_981 wd_982 wd_983 wd_7 wd_984) (fun sz => s_Mo_diagonal l g ws sz hW.ms e2) (nA := 1) (rm := rm_Mo_diagonal) (by decide +kernel) rfl ⟨rfl, rfl⟩ (by decide) ⟨by show cells + 1 + 0 ≤ 601024; omega, by show slots + 6 + 0 ≤ 7293034; omega⟩ (As := [.int (xs (i + 1).toNatClampNeg)]) (rest := []) rfl (Nat.le_of_ble_eq_true rfl) dl_1589 (fun ws1 H locs hw hp => ?_)
  have hW := hW.mo hp
  clear hp
  generalize ws1 = ws at hw hW
  refine lv_istore (lv' := [(6, .int r9), (5, .int (wr_code o9)), (4, .int i), (0, .ref b), (1, .ref (g.2.1 0)), (2, .ref (g.2.1 35)), (3, .ref (g.2.1 47))]) hx hb dl_1592 hl (by decide) rfl (fun ls hl => ?_)
  refine lv_aload_n hx hb dl_1594 rfl (lv_at hl 5 rfl) ?_
  refine ct_callVi C0 hw hl.1 (q0 := 35) (hW.2.1 35 (by decide) (by decide)) rfl (ct_giV wd_790 wd_791 wd_792 wd_7 wd_793) (fun sz => s_Mo_thrown l g ws sz hW.ms (show fn_Mo_thrown t9 = some (ms_I t9 0) from rfl)) (nA := 0) (rm := rm_Mo_thrown) (by decide +kernel) rfl ⟨rfl, rfl⟩ (by decide) ⟨by show cells + 1 + 0 ≤ 601024; omega, by show slots + 6 + 0 ≤ 7293034; omega⟩ (As := []) (rest := []) rfl (Nat.le_of_ble_eq_true rfl) dl_1595 (fun ws1 H locs hw hp => ?_)
  rw [hp] at hw
  clear hp
  refine lv_iload hx hb dl_1598 (lv_at hl 1 rfl) ?_
  refine lv_icmp_eq hx hb (tgt := 1605) dl_1600 (by decide) (fun _ => ?_) (fun hc9 => absurd hth hc9)
  refine lv_iload hx hb dl_1605 (lv_at hl 1 rfl) ?_
  have hE : W p l e room_1 sv m args below meth c H locs (cells + 1 + 0) (slots + 6 + 0) Q (F0 m 1622 ls []) := by
    refine lv_goto hx hb (tgt := 1681) dl_1622 (by decide) ?_
    exact kk ws H locs _ _ _ _ _ ls hw hW hI (lv_sub hl [2, 3, 4, 5, 6] rfl) (by omega) (by omega)
  refine lv_if_ne hx hb (tgt := 1622) dl_1607 (by decide) (fun _ => hE) (fun hz => ?_)
  refine lv_aload_n hx hb dl_1610 rfl (lv_at hl 6 rfl) ?_
  refine lv_iconst (v := 0) hx hb dl_1611 (by decide) ?_
  refine va_lald hx hb C0.2.2.2.2.2.1.1 hw.1 47 2 hW.2.2 rfl (ct_inR_vp (by decide)) dl_1612 ?_
  refine lv_iload hx hb dl_1613 (lv_at hl 0 rfl) ?_
  refine lv_i2l hx hb dl_1615 rfl ?_
  refine W.lcmp hx hb dl_1616 ?_
  refine lv_if_eq hx hb (tgt := 1622) dl_1617 (by decide) (fun _ => hE) (fun hz2 => absurd ((lg_cmp_eq _ _).mpr (wr_eqI hz hv)) hz2)
theorem dl_1625 : decode code 1625 = .ok (.aload_n 1, 1) := by decide +kernel
theorem dl_1626 : decode code 1626 = .ok (.aload_n 0, 1) := by decide +kernel
theorem dl_1627 : decode code 1627 = .ok (.iload 4, 2) := by decide +kernel
theorem dl_1629 : decode code 1629 = .ok (.iconst 1, 1) := by decide +kernel
theorem dl_1630 : decode code 1630 = .ok (.iadd, 1) := by decide +kernel
theorem dl_1631 : decode code 1631 = .ok (.iaload, 1) := by decide +kernel
theorem dl_1632 : decode code 1632 = .ok (.aload_n 3, 1) := by decide +kernel
theorem dl_1633 : decode code 1633 = .ok (.invokestatic 168, 3) := by decide +kernel
theorem dl_1636 : decode code 1636 = .ok (.istore 5, 2) := by decide +kernel
theorem dl_1638 : decode code 1638 = .ok (.aload_n 2, 1) := by decide +kernel
theorem dl_1639 : decode code 1639 = .ok (.aload_n 0, 1) := by decide +kernel
theorem dl_1640 : decode code 1640 = .ok (.iload 4, 2) := by decide +kernel
theorem dl_1642 : decode code 1642 = .ok (.iconst 1, 1) := by decide +kernel
theorem dl_1643 : decode code 1643 = .ok (.iadd, 1) := by decide +kernel
theorem dl_1644 : decode code 1644 = .ok (.iaload, 1) := by decide +kernel
theorem dl_1645 : decode code 1645 = .ok (.invokevirtual 170, 3) := by decide +kernel
theorem dl_1648 : decode code 1648 = .ok (.istore 6, 2) := by decide +kernel
theorem dl_1650 : decode code 1650 = .ok (.aload_n 2, 1) := by decide +kernel
theorem dl_1651 : decode code 1651 = .ok (.invokevirtual 100, 3) := by decide +kernel
theorem dl_1654 : decode code 1654 = .ok (.iload 5, 2) := by decide +kernel
theorem dl_1656 : decode code 1656 = .ok (.if_icmp .eq 5, 3) := by decide +kernel
theorem dl_1659 : decode code 1659 = .ok (.iconst 0, 1) := by decide +kernel
theorem dl_1660 : decode code 1660 = .ok (.ireturn, 1) := by decide +kernel
theorem dl_1661 : decode code 1661 = .ok (.iload 5, 2) := by decide +kernel
theorem dl_1663 : decode code 1663 = .ok (.ifCond .ne 15, 3) := by decide +kernel
theorem dl_1666 : decode code 1666 = .ok (.aload_n 3, 1) := by decide +kernel
theorem dl_1667 : decode code 1667 = .ok (.iconst 0, 1) := by decide +kernel
theorem dl_1668 : decode code 1668 = .ok (.laload, 1) := by decide +kernel
theorem dl_1669 : decode code 1669 = .ok (.iload 6, 2) := by decide +kernel
theorem dl_1671 : decode code 1671 = .ok (.i2l, 1) := by decide +kernel
theorem dl_1672 : decode code 1672 = .ok (.lcmp, 1) := by decide +kernel
theorem dl_1673 : decode code 1673 = .ok (.ifCond .eq 5, 3) := by decide +kernel
theorem dl_1676 : decode code 1676 = .ok (.iconst 0, 1) := by decide +kernel
theorem dl_1677 : decode code 1677 = .ok (.ireturn, 1) := by decide +kernel
theorem dl_1678 : decode code 1678 = .ok (.goto 3, 3) := by decide +kernel
set_option maxHeartbeats 4000000 in
set_option maxRecDepth 100000 in
theorem lc_20 {Iv : CS → MS → Prop} (P : PP_count Iv) {p : Program} {l : Launch} {e : Env} {sv : State} {m : MethodId} {args : Array Value} {below : List Frame} {meth : Method} {c : Code} {Q : State → Prop} {b L : Nat} {xs : Nat → Int32} {g : Gx} {A : Nat → Prop} (hl0 : l.stackTraces = false) (C0 : ct_Cx R_La code 8 p sv m args meth c g A) (hX : va_X b L xs sv sv.heap) (hbl : b < sv.heap.size) (hbA : ¬ A b) {i : Int32} (hi : vp_in i L ∧ vp_in (i + 1) L ∧ vp_in (i + 2) L ∧ vp_in (i + 3) L ∧ vp_in (i + 4) L) {ws : va_W} {H : Heap} {locs : List Loc} {cells slots : Nat} {s : CS} {t : MS} {out : Nat → Int64} {ls : Array Slot} (hw : ct_Wd g A sv ws H locs) (hW : LWd g ws s t out) (hI : Iv s t) (hl : lv_has ls 8 [(4, .int i), (0, .ref b), (1, .ref (g.2.1 0)), (2, .ref (g.2.1 35)), (3, .ref (g.2.1 47))]) (hc : cells + 20 ≤ 601024) (hs : slots + 120 ≤ 7293034)
    (kk : ∀ (ws : va_W) (H : Heap) (locs : List Loc) (cells1 slots1 : Nat) (s : CS) (t : MS) (out : Nat → Int64) (ls : Array Slot), ct_Wd g A sv ws H locs → LWd g ws s t out → Iv s t → lv_has ls 8 [(4, .int i), (0, .ref b), (1, .ref (g.2.1 0)), (2, .ref (g.2.1 35)), (3, .ref (g.2.1 47))] → cells1 ≤ cells + 20 → slots1 ≤ slots + 120 → W p l e room_1 sv m args below meth c H locs cells1 slots1 Q (F0 m 1681 ls [])) : W p l e room_1 sv m args below meth c H locs cells slots Q (F0 m 1625 ls []) := by
  have hx := C0.1
  have hb := C0.2.1
  refine lv_aload_n hx hb dl_1625 rfl (lv_at hl 2 rfl) ?_
  refine lv_aload_n hx hb dl_1626 rfl (lv_at hl 1 rfl) ?_
  refine lv_iload hx hb dl_1627 (lv_at hl 0 rfl) ?_
  refine lv_iconst (v := 1) hx hb dl_1629 (by decide) ?_
  refine lv_iadd hx hb dl_1630 ?_
  refine va_sld hx hb hX hbl hbA hw.2.2 hi.2.1 dl_1631 ?_
  refine lv_aload_n hx hb dl_1632 rfl (lv_at hl 4 rfl) ?_
  obtain ⟨o9, r9, t9, e1, e2, hk, hth, hI, hv⟩ := P s t hI (xs (i + 1).toNatClampNeg)
  refine ct_callW (hh := hh_La_count) C0 hw hl.1 wd_688 wd_689 wd_0 wd_690 (fun sz => w_La_count l g ws sz hW.cs hW.2.2 hl0 e1 hk) (nA := 3) (rm := rm_La_count) (by decide +kernel) rfl ⟨rfl, rfl⟩ (by decide) ⟨by show cells + 1 ≤ 601024; omega, by show slots + 6 ≤ 7293034; omega⟩ (As := [.ref (g.2.1 0), .int (xs (i + 1).toNatClampNeg), .ref (g.2.1 47)]) (rest := []) rfl (Nat.le_of_ble_eq_true rfl) dl_1633 (fun ws H locs hw hp => ?_)
  have hW := hW.wr hp
  clear hp
  refine lv_istore (lv' := [(5, .int (wr_code o9)), (4, .int i), (0, .ref b), (1, .ref (g.2.1 0)), (2, .ref (g.2.1 35)), (3, .ref (g.2.1 47))]) hx hb dl_1636 hl (by decide) rfl (fun ls hl => ?_)
  refine lv_aload_n hx hb dl_1638 rfl (lv_at hl 4 rfl) ?_
  refine lv_aload_n hx hb dl_1639 rfl (lv_at hl 2 rfl) ?_
  refine lv_iload hx hb dl_1640 (lv_at hl 1 rfl) ?_
  refine lv_iconst (v := 1) hx hb dl_1642 (by decide) ?_
  refine lv_iadd hx hb dl_1643 ?_
  refine va_sld hx hb hX hbl hbA hw.2.2 hi.2.1 dl_1644 ?_
  refine ct_callVi C0 hw hl.1 (q0 := 35) (hW.2.1 35 (by decide) (by decide)) rfl (ct_giV wd_985 wd_986 wd_987 wd_7 wd_988) (fun sz => s_Mo_count l g ws sz hW.ms e2) (nA := 1) (rm := rm_Mo_count) (by decide +kernel) rfl ⟨rfl, rfl⟩ (by decide) ⟨by show cells + 1 + 0 ≤ 601024; omega, by show slots + 6 + 0 ≤ 7293034; omega⟩ (As := [.int (xs (i + 1).toNatClampNeg)]) (rest := []) rfl (Nat.le_of_ble_eq_true rfl) dl_1645 (fun ws1 H locs hw hp => ?_)
  have hW := hW.mo hp
  clear hp
  generalize ws1 = ws at hw hW
  refine lv_istore (lv' := [(6, .int r9), (5, .int (wr_code o9)), (4, .int i), (0, .ref b), (1, .ref (g.2.1 0)), (2, .ref (g.2.1 35)), (3, .ref (g.2.1 47))]) hx hb dl_1648 hl (by decide) rfl (fun ls hl => ?_)
  refine lv_aload_n hx hb dl_1650 rfl (lv_at hl 5 rfl) ?_
  refine ct_callVi C0 hw hl.1 (q0 := 35) (hW.2.1 35 (by decide) (by decide)) rfl (ct_giV wd_790 wd_791 wd_792 wd_7 wd_793) (fun sz => s_Mo_thrown l g ws sz hW.ms (show fn_Mo_thrown t9 = some (ms_I t9 0) from rfl)) (nA := 0) (rm := rm_Mo_thrown) (by decide +kernel) rfl ⟨rfl, rfl⟩ (by decide) ⟨by show cells + 1 + 0 ≤ 601024; omega, by show slots + 6 + 0 ≤ 7293034; omega⟩ (As := []) (rest := []) rfl (Nat.le_of_ble_eq_true rfl) dl_1651 (fun ws1 H locs hw hp => ?_)
  rw [hp] at hw
  clear hp
  refine lv_iload hx hb dl_1654 (lv_at hl 1 rfl) ?_
  refine lv_icmp_eq hx hb (tgt := 1661) dl_1656 (by decide) (fun _ => ?_) (fun hc9 => absurd hth hc9)
  refine lv_iload hx hb dl_1661 (lv_at hl 1 rfl) ?_
  have hE : W p l e room_1 sv m args below meth c H locs (cells + 1 + 0) (slots + 6 + 0) Q (F0 m 1678 ls []) := by
    refine lv_goto hx hb (tgt := 1681) dl_1678 (by decide) ?_
    exact kk ws H locs _ _ _ _ _ ls hw hW hI (lv_sub hl [2, 3, 4, 5, 6] rfl) (by omega) (by omega)
  refine lv_if_ne hx hb (tgt := 1678) dl_1663 (by decide) (fun _ => hE) (fun hz => ?_)
  refine lv_aload_n hx hb dl_1666 rfl (lv_at hl 6 rfl) ?_
  refine lv_iconst (v := 0) hx hb dl_1667 (by decide) ?_
  refine va_lald hx hb C0.2.2.2.2.2.1.1 hw.1 47 2 hW.2.2 rfl (ct_inR_vp (by decide)) dl_1668 ?_
  refine lv_iload hx hb dl_1669 (lv_at hl 0 rfl) ?_
  refine lv_i2l hx hb dl_1671 rfl ?_
  refine W.lcmp hx hb dl_1672 ?_
  refine lv_if_eq hx hb (tgt := 1678) dl_1673 (by decide) (fun _ => hE) (fun hz2 => absurd ((lg_cmp_eq _ _).mpr (wr_eqI hz hv)) hz2)
