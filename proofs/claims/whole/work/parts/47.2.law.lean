theorem dl_644 : decode code 644 = .ok (.aload_n 1, 1) := by decide +kernel
theorem dl_645 : decode code 645 = .ok (.aload_n 0, 1) := by decide +kernel
theorem dl_646 : decode code 646 = .ok (.iload 4, 2) := by decide +kernel
theorem dl_648 : decode code 648 = .ok (.iconst 1, 1) := by decide +kernel
theorem dl_649 : decode code 649 = .ok (.iadd, 1) := by decide +kernel
theorem dl_650 : decode code 650 = .ok (.iaload, 1) := by decide +kernel
theorem dl_651 : decode code 651 = .ok (.aload_n 0, 1) := by decide +kernel
theorem dl_652 : decode code 652 = .ok (.iload 4, 2) := by decide +kernel
theorem dl_654 : decode code 654 = .ok (.iconst 2, 1) := by decide +kernel
theorem dl_655 : decode code 655 = .ok (.iadd, 1) := by decide +kernel
theorem dl_656 : decode code 656 = .ok (.iaload, 1) := by decide +kernel
theorem dl_657 : decode code 657 = .ok (.aload_n 3, 1) := by decide +kernel
theorem dl_658 : decode code 658 = .ok (.invokestatic 125, 3) := by decide +kernel
theorem dl_661 : decode code 661 = .ok (.istore 5, 2) := by decide +kernel
theorem dl_663 : decode code 663 = .ok (.aload_n 2, 1) := by decide +kernel
theorem dl_664 : decode code 664 = .ok (.aload_n 0, 1) := by decide +kernel
theorem dl_665 : decode code 665 = .ok (.iload 4, 2) := by decide +kernel
theorem dl_667 : decode code 667 = .ok (.iconst 1, 1) := by decide +kernel
theorem dl_668 : decode code 668 = .ok (.iadd, 1) := by decide +kernel
theorem dl_669 : decode code 669 = .ok (.iaload, 1) := by decide +kernel
theorem dl_670 : decode code 670 = .ok (.aload_n 0, 1) := by decide +kernel
theorem dl_671 : decode code 671 = .ok (.iload 4, 2) := by decide +kernel
theorem dl_673 : decode code 673 = .ok (.iconst 2, 1) := by decide +kernel
theorem dl_674 : decode code 674 = .ok (.iadd, 1) := by decide +kernel
theorem dl_675 : decode code 675 = .ok (.iaload, 1) := by decide +kernel
theorem dl_676 : decode code 676 = .ok (.invokevirtual 128, 3) := by decide +kernel
theorem dl_679 : decode code 679 = .ok (.istore 6, 2) := by decide +kernel
theorem dl_681 : decode code 681 = .ok (.aload_n 2, 1) := by decide +kernel
theorem dl_682 : decode code 682 = .ok (.invokevirtual 100, 3) := by decide +kernel
theorem dl_685 : decode code 685 = .ok (.iload 5, 2) := by decide +kernel
theorem dl_687 : decode code 687 = .ok (.if_icmp .eq 5, 3) := by decide +kernel
theorem dl_690 : decode code 690 = .ok (.iconst 0, 1) := by decide +kernel
theorem dl_691 : decode code 691 = .ok (.ireturn, 1) := by decide +kernel
theorem dl_692 : decode code 692 = .ok (.iload 5, 2) := by decide +kernel
theorem dl_694 : decode code 694 = .ok (.ifCond .ne 15, 3) := by decide +kernel
theorem dl_697 : decode code 697 = .ok (.aload_n 3, 1) := by decide +kernel
theorem dl_698 : decode code 698 = .ok (.iconst 0, 1) := by decide +kernel
theorem dl_699 : decode code 699 = .ok (.laload, 1) := by decide +kernel
theorem dl_700 : decode code 700 = .ok (.iload 6, 2) := by decide +kernel
theorem dl_702 : decode code 702 = .ok (.i2l, 1) := by decide +kernel
theorem dl_703 : decode code 703 = .ok (.lcmp, 1) := by decide +kernel
theorem dl_704 : decode code 704 = .ok (.ifCond .eq 5, 3) := by decide +kernel
theorem dl_707 : decode code 707 = .ok (.iconst 0, 1) := by decide +kernel
theorem dl_708 : decode code 708 = .ok (.ireturn, 1) := by decide +kernel
theorem dl_709 : decode code 709 = .ok (.goto 972, 3) := by decide +kernel
set_option maxHeartbeats 4000000 in
set_option maxRecDepth 100000 in
theorem lc_7 {Iv : CS → MS → Prop} (P : PP_cell Iv) {p : Program} {l : Launch} {e : Env} {sv : State} {m : MethodId} {args : Array Value} {below : List Frame} {meth : Method} {c : Code} {Q : State → Prop} {b L : Nat} {xs : Nat → Int32} {g : Gx} {A : Nat → Prop} (hl0 : l.stackTraces = false) (C0 : ct_Cx R_La code 8 p sv m args meth c g A) (hX : va_X b L xs sv sv.heap) (hbl : b < sv.heap.size) (hbA : ¬ A b) {i : Int32} (hi : vp_in i L ∧ vp_in (i + 1) L ∧ vp_in (i + 2) L ∧ vp_in (i + 3) L ∧ vp_in (i + 4) L) {ws : va_W} {H : Heap} {locs : List Loc} {cells slots : Nat} {s : CS} {t : MS} {out : Nat → Int64} {ls : Array Slot} (hw : ct_Wd g A sv ws H locs) (hW : LWd g ws s t out) (hI : Iv s t) (hl : lv_has ls 8 [(4, .int i), (0, .ref b), (1, .ref (g.2.1 0)), (2, .ref (g.2.1 35)), (3, .ref (g.2.1 47))]) (hc : cells + 20 ≤ 601024) (hs : slots + 120 ≤ 7293034)
    (kk : ∀ (ws : va_W) (H : Heap) (locs : List Loc) (cells1 slots1 : Nat) (s : CS) (t : MS) (out : Nat → Int64) (ls : Array Slot), ct_Wd g A sv ws H locs → LWd g ws s t out → Iv s t → lv_has ls 8 [(4, .int i), (0, .ref b), (1, .ref (g.2.1 0)), (2, .ref (g.2.1 35)), (3, .ref (g.2.1 47))] → cells1 ≤ cells + 20 → slots1 ≤ slots + 120 → W p l e room_1 sv m args below meth c H locs cells1 slots1 Q (F0 m 1681 ls [])) : W p l e room_1 sv m args below meth c H locs cells slots Q (F0 m 644 ls []) := by
  have hx := C0.1
  have hb := C0.2.1
  refine lv_aload_n hx hb dl_644 rfl (lv_at hl 2 rfl) ?_
  refine lv_aload_n hx hb dl_645 rfl (lv_at hl 1 rfl) ?_
  refine lv_iload hx hb dl_646 (lv_at hl 0 rfl) ?_
  refine lv_iconst (v := 1) hx hb dl_648 (by decide) ?_
  refine lv_iadd hx hb dl_649 ?_
  refine va_sld hx hb hX hbl hbA hw.2.2 hi.2.1 dl_650 ?_
  refine lv_aload_n hx hb dl_651 rfl (lv_at hl 1 rfl) ?_
  refine lv_iload hx hb dl_652 (lv_at hl 0 rfl) ?_
  refine lv_iconst (v := 2) hx hb dl_654 (by decide) ?_
  refine lv_iadd hx hb dl_655 ?_
  refine va_sld hx hb hX hbl hbA hw.2.2 hi.2.2.1 dl_656 ?_
  refine lv_aload_n hx hb dl_657 rfl (lv_at hl 4 rfl) ?_
  obtain ⟨o9, r9, t9, e1, e2, hk, hth, hI, hv⟩ := P s t hI (xs (i + 1).toNatClampNeg) (xs (i + 2).toNatClampNeg)
  refine ct_callW (hh := hh_La_cell) C0 hw hl.1 wd_416 wd_417 wd_0 wd_418 (fun sz => w_La_cell l g ws sz hW.cs hW.2.2 hl0 e1 hk) (nA := 4) (rm := rm_La_cell) (by decide +kernel) rfl ⟨rfl, rfl⟩ (by decide) ⟨by show cells + 1 ≤ 601024; omega, by show slots + 6 ≤ 7293034; omega⟩ (As := [.ref (g.2.1 0), .int (xs (i + 1).toNatClampNeg), .int (xs (i + 2).toNatClampNeg), .ref (g.2.1 47)]) (rest := []) rfl (Nat.le_of_ble_eq_true rfl) dl_658 (fun ws H locs hw hp => ?_)
  have hW := hW.wr hp
  clear hp
  refine lv_istore (lv' := [(5, .int (wr_code o9)), (4, .int i), (0, .ref b), (1, .ref (g.2.1 0)), (2, .ref (g.2.1 35)), (3, .ref (g.2.1 47))]) hx hb dl_661 hl (by decide) rfl (fun ls hl => ?_)
  refine lv_aload_n hx hb dl_663 rfl (lv_at hl 4 rfl) ?_
  refine lv_aload_n hx hb dl_664 rfl (lv_at hl 2 rfl) ?_
  refine lv_iload hx hb dl_665 (lv_at hl 1 rfl) ?_
  refine lv_iconst (v := 1) hx hb dl_667 (by decide) ?_
  refine lv_iadd hx hb dl_668 ?_
  refine va_sld hx hb hX hbl hbA hw.2.2 hi.2.1 dl_669 ?_
  refine lv_aload_n hx hb dl_670 rfl (lv_at hl 2 rfl) ?_
  refine lv_iload hx hb dl_671 (lv_at hl 1 rfl) ?_
  refine lv_iconst (v := 2) hx hb dl_673 (by decide) ?_
  refine lv_iadd hx hb dl_674 ?_
  refine va_sld hx hb hX hbl hbA hw.2.2 hi.2.2.1 dl_675 ?_
  refine ct_callVi C0 hw hl.1 (q0 := 35) (hW.2.1 35 (by decide) (by decide)) rfl (ct_giV wd_842 wd_843 wd_844 wd_7 wd_845) (fun sz => s_Mo_cell l g ws sz hW.ms e2) (nA := 2) (rm := rm_Mo_cell) (by decide +kernel) rfl ⟨rfl, rfl⟩ (by decide) ⟨by show cells + 1 + 0 ≤ 601024; omega, by show slots + 6 + 0 ≤ 7293034; omega⟩ (As := [.int (xs (i + 1).toNatClampNeg), .int (xs (i + 2).toNatClampNeg)]) (rest := []) rfl (Nat.le_of_ble_eq_true rfl) dl_676 (fun ws1 H locs hw hp => ?_)
  have hW := hW.mo hp
  clear hp
  generalize ws1 = ws at hw hW
  refine lv_istore (lv' := [(6, .int r9), (5, .int (wr_code o9)), (4, .int i), (0, .ref b), (1, .ref (g.2.1 0)), (2, .ref (g.2.1 35)), (3, .ref (g.2.1 47))]) hx hb dl_679 hl (by decide) rfl (fun ls hl => ?_)
  refine lv_aload_n hx hb dl_681 rfl (lv_at hl 5 rfl) ?_
  refine ct_callVi C0 hw hl.1 (q0 := 35) (hW.2.1 35 (by decide) (by decide)) rfl (ct_giV wd_790 wd_791 wd_792 wd_7 wd_793) (fun sz => s_Mo_thrown l g ws sz hW.ms (show fn_Mo_thrown t9 = some (ms_I t9 0) from rfl)) (nA := 0) (rm := rm_Mo_thrown) (by decide +kernel) rfl ⟨rfl, rfl⟩ (by decide) ⟨by show cells + 1 + 0 ≤ 601024; omega, by show slots + 6 + 0 ≤ 7293034; omega⟩ (As := []) (rest := []) rfl (Nat.le_of_ble_eq_true rfl) dl_682 (fun ws1 H locs hw hp => ?_)
  rw [hp] at hw
  clear hp
  refine lv_iload hx hb dl_685 (lv_at hl 1 rfl) ?_
  refine lv_icmp_eq hx hb (tgt := 692) dl_687 (by decide) (fun _ => ?_) (fun hc9 => absurd hth hc9)
  refine lv_iload hx hb dl_692 (lv_at hl 1 rfl) ?_
  have hE : W p l e room_1 sv m args below meth c H locs (cells + 1 + 0) (slots + 6 + 0) Q (F0 m 709 ls []) := by
    refine lv_goto hx hb (tgt := 1681) dl_709 (by decide) ?_
    exact kk ws H locs _ _ _ _ _ ls hw hW hI (lv_sub hl [2, 3, 4, 5, 6] rfl) (by omega) (by omega)
  refine lv_if_ne hx hb (tgt := 709) dl_694 (by decide) (fun _ => hE) (fun hz => ?_)
  refine lv_aload_n hx hb dl_697 rfl (lv_at hl 6 rfl) ?_
  refine lv_iconst (v := 0) hx hb dl_698 (by decide) ?_
  refine va_lald hx hb C0.2.2.2.2.2.1.1 hw.1 47 2 hW.2.2 rfl (ct_inR_vp (by decide)) dl_699 ?_
  refine lv_iload hx hb dl_700 (lv_at hl 0 rfl) ?_
  refine lv_i2l hx hb dl_702 rfl ?_
  refine W.lcmp hx hb dl_703 ?_
  refine lv_if_eq hx hb (tgt := 709) dl_704 (by decide) (fun _ => hE) (fun hz2 => absurd ((lg_cmp_eq _ _).mpr (wr_eqI hz hv)) hz2)
theorem dl_712 : decode code 712 = .ok (.aload_n 1, 1) := by decide +kernel
theorem dl_713 : decode code 713 = .ok (.aload_n 0, 1) := by decide +kernel
theorem dl_714 : decode code 714 = .ok (.iload 4, 2) := by decide +kernel
theorem dl_716 : decode code 716 = .ok (.iconst 1, 1) := by decide +kernel
theorem dl_717 : decode code 717 = .ok (.iadd, 1) := by decide +kernel
theorem dl_718 : decode code 718 = .ok (.iaload, 1) := by decide +kernel
theorem dl_719 : decode code 719 = .ok (.aload_n 0, 1) := by decide +kernel
theorem dl_720 : decode code 720 = .ok (.iload 4, 2) := by decide +kernel
theorem dl_722 : decode code 722 = .ok (.iconst 2, 1) := by decide +kernel
theorem dl_723 : decode code 723 = .ok (.iadd, 1) := by decide +kernel
theorem dl_724 : decode code 724 = .ok (.iaload, 1) := by decide +kernel
theorem dl_725 : decode code 725 = .ok (.aload_n 0, 1) := by decide +kernel
theorem dl_726 : decode code 726 = .ok (.iload 4, 2) := by decide +kernel
theorem dl_728 : decode code 728 = .ok (.iconst 3, 1) := by decide +kernel
theorem dl_729 : decode code 729 = .ok (.iadd, 1) := by decide +kernel
theorem dl_730 : decode code 730 = .ok (.iaload, 1) := by decide +kernel
theorem dl_731 : decode code 731 = .ok (.ifCond .eq 7, 3) := by decide +kernel
theorem dl_734 : decode code 734 = .ok (.iconst 1, 1) := by decide +kernel
theorem dl_735 : decode code 735 = .ok (.goto 4, 3) := by decide +kernel
theorem dl_738 : decode code 738 = .ok (.iconst 0, 1) := by decide +kernel
theorem dl_739 : decode code 739 = .ok (.aload_n 3, 1) := by decide +kernel
theorem dl_740 : decode code 740 = .ok (.invokestatic 129, 3) := by decide +kernel
theorem dl_743 : decode code 743 = .ok (.istore 5, 2) := by decide +kernel
theorem dl_745 : decode code 745 = .ok (.aload_n 2, 1) := by decide +kernel
theorem dl_746 : decode code 746 = .ok (.aload_n 0, 1) := by decide +kernel
theorem dl_747 : decode code 747 = .ok (.iload 4, 2) := by decide +kernel
theorem dl_749 : decode code 749 = .ok (.iconst 1, 1) := by decide +kernel
theorem dl_750 : decode code 750 = .ok (.iadd, 1) := by decide +kernel
theorem dl_751 : decode code 751 = .ok (.iaload, 1) := by decide +kernel
theorem dl_752 : decode code 752 = .ok (.aload_n 0, 1) := by decide +kernel
theorem dl_753 : decode code 753 = .ok (.iload 4, 2) := by decide +kernel
theorem dl_755 : decode code 755 = .ok (.iconst 2, 1) := by decide +kernel
theorem dl_756 : decode code 756 = .ok (.iadd, 1) := by decide +kernel
theorem dl_757 : decode code 757 = .ok (.iaload, 1) := by decide +kernel
theorem dl_758 : decode code 758 = .ok (.aload_n 0, 1) := by decide +kernel
theorem dl_759 : decode code 759 = .ok (.iload 4, 2) := by decide +kernel
theorem dl_761 : decode code 761 = .ok (.iconst 3, 1) := by decide +kernel
theorem dl_762 : decode code 762 = .ok (.iadd, 1) := by decide +kernel
theorem dl_763 : decode code 763 = .ok (.iaload, 1) := by decide +kernel
theorem dl_764 : decode code 764 = .ok (.ifCond .eq 7, 3) := by decide +kernel
theorem dl_767 : decode code 767 = .ok (.iconst 1, 1) := by decide +kernel
theorem dl_768 : decode code 768 = .ok (.goto 4, 3) := by decide +kernel
theorem dl_771 : decode code 771 = .ok (.iconst 0, 1) := by decide +kernel
theorem dl_772 : decode code 772 = .ok (.invokevirtual 132, 3) := by decide +kernel
theorem dl_775 : decode code 775 = .ok (.istore 6, 2) := by decide +kernel
theorem dl_777 : decode code 777 = .ok (.aload_n 2, 1) := by decide +kernel
theorem dl_778 : decode code 778 = .ok (.invokevirtual 100, 3) := by decide +kernel
theorem dl_781 : decode code 781 = .ok (.iload 5, 2) := by decide +kernel
theorem dl_783 : decode code 783 = .ok (.if_icmp .eq 5, 3) := by decide +kernel
theorem dl_786 : decode code 786 = .ok (.iconst 0, 1) := by decide +kernel
theorem dl_787 : decode code 787 = .ok (.ireturn, 1) := by decide +kernel
theorem dl_788 : decode code 788 = .ok (.iload 5, 2) := by decide +kernel
theorem dl_790 : decode code 790 = .ok (.ifCond .ne 15, 3) := by decide +kernel
theorem dl_793 : decode code 793 = .ok (.aload_n 3, 1) := by decide +kernel
theorem dl_794 : decode code 794 = .ok (.iconst 0, 1) := by decide +kernel
theorem dl_795 : decode code 795 = .ok (.laload, 1) := by decide +kernel
theorem dl_796 : decode code 796 = .ok (.iload 6, 2) := by decide +kernel
theorem dl_798 : decode code 798 = .ok (.i2l, 1) := by decide +kernel
theorem dl_799 : decode code 799 = .ok (.lcmp, 1) := by decide +kernel
theorem dl_800 : decode code 800 = .ok (.ifCond .eq 5, 3) := by decide +kernel
theorem dl_803 : decode code 803 = .ok (.iconst 0, 1) := by decide +kernel
theorem dl_804 : decode code 804 = .ok (.ireturn, 1) := by decide +kernel
theorem dl_805 : decode code 805 = .ok (.goto 876, 3) := by decide +kernel
set_option maxHeartbeats 4000000 in
set_option maxRecDepth 100000 in
theorem lc_8 {Iv : CS → MS → Prop} (P : PP_leave Iv) {p : Program} {l : Launch} {e : Env} {sv : State} {m : MethodId} {args : Array Value} {below : List Frame} {meth : Method} {c : Code} {Q : State → Prop} {b L : Nat} {xs : Nat → Int32} {g : Gx} {A : Nat → Prop} (hl0 : l.stackTraces = false) (C0 : ct_Cx R_La code 8 p sv m args meth c g A) (hX : va_X b L xs sv sv.heap) (hbl : b < sv.heap.size) (hbA : ¬ A b) {i : Int32} (hi : vp_in i L ∧ vp_in (i + 1) L ∧ vp_in (i + 2) L ∧ vp_in (i + 3) L ∧ vp_in (i + 4) L) {ws : va_W} {H : Heap} {locs : List Loc} {cells slots : Nat} {s : CS} {t : MS} {out : Nat → Int64} {ls : Array Slot} (hw : ct_Wd g A sv ws H locs) (hW : LWd g ws s t out) (hI : Iv s t) (hl : lv_has ls 8 [(4, .int i), (0, .ref b), (1, .ref (g.2.1 0)), (2, .ref (g.2.1 35)), (3, .ref (g.2.1 47))]) (hc : cells + 20 ≤ 601024) (hs : slots + 120 ≤ 7293034)
    (kk : ∀ (ws : va_W) (H : Heap) (locs : List Loc) (cells1 slots1 : Nat) (s : CS) (t : MS) (out : Nat → Int64) (ls : Array Slot), ct_Wd g A sv ws H locs → LWd g ws s t out → Iv s t → lv_has ls 8 [(4, .int i), (0, .ref b), (1, .ref (g.2.1 0)), (2, .ref (g.2.1 35)), (3, .ref (g.2.1 47))] → cells1 ≤ cells + 20 → slots1 ≤ slots + 120 → W p l e room_1 sv m args below meth c H locs cells1 slots1 Q (F0 m 1681 ls [])) : W p l e room_1 sv m args below meth c H locs cells slots Q (F0 m 712 ls []) := by
  have hx := C0.1
  have hb := C0.2.1
  refine lv_aload_n hx hb dl_712 rfl (lv_at hl 2 rfl) ?_
  refine lv_aload_n hx hb dl_713 rfl (lv_at hl 1 rfl) ?_
  refine lv_iload hx hb dl_714 (lv_at hl 0 rfl) ?_
  refine lv_iconst (v := 1) hx hb dl_716 (by decide) ?_
  refine lv_iadd hx hb dl_717 ?_
  refine va_sld hx hb hX hbl hbA hw.2.2 hi.2.1 dl_718 ?_
  refine lv_aload_n hx hb dl_719 rfl (lv_at hl 1 rfl) ?_
  refine lv_iload hx hb dl_720 (lv_at hl 0 rfl) ?_
  refine lv_iconst (v := 2) hx hb dl_722 (by decide) ?_
  refine lv_iadd hx hb dl_723 ?_
  refine va_sld hx hb hX hbl hbA hw.2.2 hi.2.2.1 dl_724 ?_
  refine lv_aload_n hx hb dl_725 rfl (lv_at hl 1 rfl) ?_
  refine lv_iload hx hb dl_726 (lv_at hl 0 rfl) ?_
  refine lv_iconst (v := 3) hx hb dl_728 (by decide) ?_
  refine lv_iadd hx hb dl_729 ?_
  refine va_sld hx hb hX hbl hbA hw.2.2 hi.2.2.2.1 dl_730 ?_
  refine lw_bz (L := 738) (M := 739) hx hb dl_731 (by decide) dl_734 dl_735 (by decide) dl_738 rfl ?_
  refine lv_aload_n hx hb dl_739 rfl (lv_at hl 4 rfl) ?_
  obtain ⟨o9, r9, t9, e1, e2, hk, hth, hI, hv⟩ := P s t hI (xs (i + 1).toNatClampNeg) (xs (i + 2).toNatClampNeg) (bz (xs (i + 3).toNatClampNeg)) (bz_01 _)
  refine ct_callW (hh := hh_La_leave) C0 hw hl.1 wd_430 wd_431 wd_0 wd_432 (fun sz => w_La_leave l g ws sz hW.cs hW.2.2 hl0 e1 hk) (nA := 5) (rm := rm_La_leave) (by decide +kernel) rfl ⟨rfl, rfl⟩ (by decide) ⟨by show cells + 1 ≤ 601024; omega, by show slots + 6 ≤ 7293034; omega⟩ (As := [.ref (g.2.1 0), .int (xs (i + 1).toNatClampNeg), .int (xs (i + 2).toNatClampNeg), .int (bz (xs (i + 3).toNatClampNeg)), .ref (g.2.1 47)]) (rest := []) rfl (Nat.le_of_ble_eq_true rfl) dl_740 (fun ws H locs hw hp => ?_)
  have hW := hW.wr hp
  clear hp
  refine lv_istore (lv' := [(5, .int (wr_code o9)), (4, .int i), (0, .ref b), (1, .ref (g.2.1 0)), (2, .ref (g.2.1 35)), (3, .ref (g.2.1 47))]) hx hb dl_743 hl (by decide) rfl (fun ls hl => ?_)
  refine lv_aload_n hx hb dl_745 rfl (lv_at hl 4 rfl) ?_
  refine lv_aload_n hx hb dl_746 rfl (lv_at hl 2 rfl) ?_
  refine lv_iload hx hb dl_747 (lv_at hl 1 rfl) ?_
  refine lv_iconst (v := 1) hx hb dl_749 (by decide) ?_
  refine lv_iadd hx hb dl_750 ?_
  refine va_sld hx hb hX hbl hbA hw.2.2 hi.2.1 dl_751 ?_
  refine lv_aload_n hx hb dl_752 rfl (lv_at hl 2 rfl) ?_
  refine lv_iload hx hb dl_753 (lv_at hl 1 rfl) ?_
  refine lv_iconst (v := 2) hx hb dl_755 (by decide) ?_
  refine lv_iadd hx hb dl_756 ?_
  refine va_sld hx hb hX hbl hbA hw.2.2 hi.2.2.1 dl_757 ?_
  refine lv_aload_n hx hb dl_758 rfl (lv_at hl 2 rfl) ?_
  refine lv_iload hx hb dl_759 (lv_at hl 1 rfl) ?_
  refine lv_iconst (v := 3) hx hb dl_761 (by decide) ?_
  refine lv_iadd hx hb dl_762 ?_
  refine va_sld hx hb hX hbl hbA hw.2.2 hi.2.2.2.1 dl_763 ?_
  refine lw_bz (L := 771) (M := 772) hx hb dl_764 (by decide) dl_767 dl_768 (by decide) dl_771 rfl ?_
  refine ct_callVi C0 hw hl.1 (q0 := 35) (hW.2.1 35 (by decide) (by decide)) rfl (ct_giV wd_862 wd_863 wd_864 wd_7 wd_865) (fun sz => s_Mo_leave l g ws sz hW.ms e2) (nA := 3) (rm := rm_Mo_leave) (by decide +kernel) rfl ⟨rfl, rfl⟩ (by decide) ⟨by show cells + 1 + 0 ≤ 601024; omega, by show slots + 6 + 0 ≤ 7293034; omega⟩ (As := [.int (xs (i + 1).toNatClampNeg), .int (xs (i + 2).toNatClampNeg), .int (bz (xs (i + 3).toNatClampNeg))]) (rest := []) rfl (Nat.le_of_ble_eq_true rfl) dl_772 (fun ws1 H locs hw hp => ?_)
  have hW := hW.mo hp
  clear hp
  generalize ws1 = ws at hw hW
  refine lv_istore (lv' := [(6, .int r9), (5, .int (wr_code o9)), (4, .int i), (0, .ref b), (1, .ref (g.2.1 0)), (2, .ref (g.2.1 35)), (3, .ref (g.2.1 47))]) hx hb dl_775 hl (by decide) rfl (fun ls hl => ?_)
  refine lv_aload_n hx hb dl_777 rfl (lv_at hl 5 rfl) ?_
  refine ct_callVi C0 hw hl.1 (q0 := 35) (hW.2.1 35 (by decide) (by decide)) rfl (ct_giV wd_790 wd_791 wd_792 wd_7 wd_793) (fun sz => s_Mo_thrown l g ws sz hW.ms (show fn_Mo_thrown t9 = some (ms_I t9 0) from rfl)) (nA := 0) (rm := rm_Mo_thrown) (by decide +kernel) rfl ⟨rfl, rfl⟩ (by decide) ⟨by show cells + 1 + 0 ≤ 601024; omega, by show slots + 6 + 0 ≤ 7293034; omega⟩ (As := []) (rest := []) rfl (Nat.le_of_ble_eq_true rfl) dl_778 (fun ws1 H locs hw hp => ?_)
  rw [hp] at hw
  clear hp
  refine lv_iload hx hb dl_781 (lv_at hl 1 rfl) ?_
  refine lv_icmp_eq hx hb (tgt := 788) dl_783 (by decide) (fun _ => ?_) (fun hc9 => absurd hth hc9)
  refine lv_iload hx hb dl_788 (lv_at hl 1 rfl) ?_
  have hE : W p l e room_1 sv m args below meth c H locs (cells + 1 + 0) (slots + 6 + 0) Q (F0 m 805 ls []) := by
    refine lv_goto hx hb (tgt := 1681) dl_805 (by decide) ?_
    exact kk ws H locs _ _ _ _ _ ls hw hW hI (lv_sub hl [2, 3, 4, 5, 6] rfl) (by omega) (by omega)
  refine lv_if_ne hx hb (tgt := 805) dl_790 (by decide) (fun _ => hE) (fun hz => ?_)
  refine lv_aload_n hx hb dl_793 rfl (lv_at hl 6 rfl) ?_
  refine lv_iconst (v := 0) hx hb dl_794 (by decide) ?_
  refine va_lald hx hb C0.2.2.2.2.2.1.1 hw.1 47 2 hW.2.2 rfl (ct_inR_vp (by decide)) dl_795 ?_
  refine lv_iload hx hb dl_796 (lv_at hl 0 rfl) ?_
  refine lv_i2l hx hb dl_798 rfl ?_
  refine W.lcmp hx hb dl_799 ?_
  refine lv_if_eq hx hb (tgt := 805) dl_800 (by decide) (fun _ => hE) (fun hz2 => absurd ((lg_cmp_eq _ _).mpr (wr_eqI hz hv)) hz2)
theorem dl_808 : decode code 808 = .ok (.aload_n 1, 1) := by decide +kernel
theorem dl_809 : decode code 809 = .ok (.aload_n 0, 1) := by decide +kernel
theorem dl_810 : decode code 810 = .ok (.iload 4, 2) := by decide +kernel
theorem dl_812 : decode code 812 = .ok (.iconst 1, 1) := by decide +kernel
theorem dl_813 : decode code 813 = .ok (.iadd, 1) := by decide +kernel
theorem dl_814 : decode code 814 = .ok (.iaload, 1) := by decide +kernel
theorem dl_815 : decode code 815 = .ok (.invokestatic 133, 3) := by decide +kernel
theorem dl_818 : decode code 818 = .ok (.istore 5, 2) := by decide +kernel
theorem dl_820 : decode code 820 = .ok (.aload_n 2, 1) := by decide +kernel
theorem dl_821 : decode code 821 = .ok (.aload_n 0, 1) := by decide +kernel
theorem dl_822 : decode code 822 = .ok (.iload 4, 2) := by decide +kernel
theorem dl_824 : decode code 824 = .ok (.iconst 1, 1) := by decide +kernel
theorem dl_825 : decode code 825 = .ok (.iadd, 1) := by decide +kernel
theorem dl_826 : decode code 826 = .ok (.iaload, 1) := by decide +kernel
theorem dl_827 : decode code 827 = .ok (.invokevirtual 136, 3) := by decide +kernel
theorem dl_830 : decode code 830 = .ok (.aload_n 2, 1) := by decide +kernel
theorem dl_831 : decode code 831 = .ok (.invokevirtual 100, 3) := by decide +kernel
theorem dl_834 : decode code 834 = .ok (.iload 5, 2) := by decide +kernel
theorem dl_836 : decode code 836 = .ok (.if_icmp .eq 5, 3) := by decide +kernel
theorem dl_839 : decode code 839 = .ok (.iconst 0, 1) := by decide +kernel
theorem dl_840 : decode code 840 = .ok (.ireturn, 1) := by decide +kernel
theorem dl_841 : decode code 841 = .ok (.goto 840, 3) := by decide +kernel
set_option maxHeartbeats 4000000 in
set_option maxRecDepth 100000 in
theorem lc_9 {Iv : CS → MS → Prop} (P : PP_latest Iv) {p : Program} {l : Launch} {e : Env} {sv : State} {m : MethodId} {args : Array Value} {below : List Frame} {meth : Method} {c : Code} {Q : State → Prop} {b L : Nat} {xs : Nat → Int32} {g : Gx} {A : Nat → Prop} (hl0 : l.stackTraces = false) (C0 : ct_Cx R_La code 8 p sv m args meth c g A) (hX : va_X b L xs sv sv.heap) (hbl : b < sv.heap.size) (hbA : ¬ A b) {i : Int32} (hi : vp_in i L ∧ vp_in (i + 1) L ∧ vp_in (i + 2) L ∧ vp_in (i + 3) L ∧ vp_in (i + 4) L) {ws : va_W} {H : Heap} {locs : List Loc} {cells slots : Nat} {s : CS} {t : MS} {out : Nat → Int64} {ls : Array Slot} (hw : ct_Wd g A sv ws H locs) (hW : LWd g ws s t out) (hI : Iv s t) (hl : lv_has ls 8 [(4, .int i), (0, .ref b), (1, .ref (g.2.1 0)), (2, .ref (g.2.1 35)), (3, .ref (g.2.1 47))]) (hc : cells + 20 ≤ 601024) (hs : slots + 120 ≤ 7293034)
    (kk : ∀ (ws : va_W) (H : Heap) (locs : List Loc) (cells1 slots1 : Nat) (s : CS) (t : MS) (out : Nat → Int64) (ls : Array Slot), ct_Wd g A sv ws H locs → LWd g ws s t out → Iv s t → lv_has ls 8 [(4, .int i), (0, .ref b), (1, .ref (g.2.1 0)), (2, .ref (g.2.1 35)), (3, .ref (g.2.1 47))] → cells1 ≤ cells + 20 → slots1 ≤ slots + 120 → W p l e room_1 sv m args below meth c H locs cells1 slots1 Q (F0 m 1681 ls [])) : W p l e room_1 sv m args below meth c H locs cells slots Q (F0 m 808 ls []) := by
  have hx := C0.1
  have hb := C0.2.1
  refine lv_aload_n hx hb dl_808 rfl (lv_at hl 2 rfl) ?_
  refine lv_aload_n hx hb dl_809 rfl (lv_at hl 1 rfl) ?_
  refine lv_iload hx hb dl_810 (lv_at hl 0 rfl) ?_
  refine lv_iconst (v := 1) hx hb dl_812 (by decide) ?_
  refine lv_iadd hx hb dl_813 ?_
  refine va_sld hx hb hX hbl hbA hw.2.2 hi.2.1 dl_814 ?_
  obtain ⟨o9, t9, e1, e2, hk, hth, hI⟩ := P s t hI (xs (i + 1).toNatClampNeg)
  refine ct_callW (hh := hh_La_latest) C0 hw hl.1 wd_441 wd_442 wd_0 wd_443 (fun sz => w_La_latest l g ws sz hW.cs hW.2.2 hl0 e1 hk) (nA := 2) (rm := rm_La_latest) (by decide +kernel) rfl ⟨rfl, rfl⟩ (by decide) ⟨by show cells + 1 ≤ 601024; omega, by show slots + 6 ≤ 7293034; omega⟩ (As := [.ref (g.2.1 0), .int (xs (i + 1).toNatClampNeg)]) (rest := []) rfl (Nat.le_of_ble_eq_true rfl) dl_815 (fun ws H locs hw hp => ?_)
  have hW := hW.wr hp
  clear hp
  refine lv_istore (lv' := [(5, .int (wr_code o9)), (4, .int i), (0, .ref b), (1, .ref (g.2.1 0)), (2, .ref (g.2.1 35)), (3, .ref (g.2.1 47))]) hx hb dl_818 hl (by decide) rfl (fun ls hl => ?_)
  refine lv_aload_n hx hb dl_820 rfl (lv_at hl 4 rfl) ?_
  refine lv_aload_n hx hb dl_821 rfl (lv_at hl 2 rfl) ?_
  refine lv_iload hx hb dl_822 (lv_at hl 1 rfl) ?_
  refine lv_iconst (v := 1) hx hb dl_824 (by decide) ?_
  refine lv_iadd hx hb dl_825 ?_
  refine va_sld hx hb hX hbl hbA hw.2.2 hi.2.1 dl_826 ?_
  refine ct_callVv C0 hw hl.1 (q0 := 35) (hW.2.1 35 (by decide) (by decide)) rfl (ct_giV wd_866 wd_867 wd_868 wd_7 wd_869) (fun sz => s_Mo_latest l g ws sz hW.ms e2) (nA := 1) (rm := rm_Mo_latest) (by decide +kernel) rfl ⟨rfl, rfl⟩ (by decide) ⟨by show cells + 1 + 0 ≤ 601024; omega, by show slots + 6 + 0 ≤ 7293034; omega⟩ (As := [.int (xs (i + 1).toNatClampNeg)]) (rest := []) rfl (Nat.le_of_ble_eq_true rfl) dl_827 (fun ws1 H locs hw hp => ?_)
  have hW := hW.mo hp
  clear hp
  generalize ws1 = ws at hw hW
  refine lv_aload_n hx hb dl_830 rfl (lv_at hl 4 rfl) ?_
  refine ct_callVi C0 hw hl.1 (q0 := 35) (hW.2.1 35 (by decide) (by decide)) rfl (ct_giV wd_790 wd_791 wd_792 wd_7 wd_793) (fun sz => s_Mo_thrown l g ws sz hW.ms (show fn_Mo_thrown t9 = some (ms_I t9 0) from rfl)) (nA := 0) (rm := rm_Mo_thrown) (by decide +kernel) rfl ⟨rfl, rfl⟩ (by decide) ⟨by show cells + 1 + 0 ≤ 601024; omega, by show slots + 6 + 0 ≤ 7293034; omega⟩ (As := []) (rest := []) rfl (Nat.le_of_ble_eq_true rfl) dl_831 (fun ws1 H locs hw hp => ?_)
  rw [hp] at hw
  clear hp
  refine lv_iload hx hb dl_834 (lv_at hl 0 rfl) ?_
  refine lv_icmp_eq hx hb (tgt := 841) dl_836 (by decide) (fun _ => ?_) (fun hc9 => absurd hth hc9)
  refine lv_goto hx hb (tgt := 1681) dl_841 (by decide) ?_
  exact kk ws H locs _ _ _ _ _ ls hw hW hI (lv_sub hl [1, 2, 3, 4, 5] rfl) (by omega) (by omega)
theorem dl_844 : decode code 844 = .ok (.aload_n 1, 1) := by decide +kernel
theorem dl_845 : decode code 845 = .ok (.aload_n 0, 1) := by decide +kernel
theorem dl_846 : decode code 846 = .ok (.iload 4, 2) := by decide +kernel
theorem dl_848 : decode code 848 = .ok (.iconst 1, 1) := by decide +kernel
theorem dl_849 : decode code 849 = .ok (.iadd, 1) := by decide +kernel
theorem dl_850 : decode code 850 = .ok (.iaload, 1) := by decide +kernel
theorem dl_851 : decode code 851 = .ok (.aload_n 3, 1) := by decide +kernel
theorem dl_852 : decode code 852 = .ok (.invokestatic 137, 3) := by decide +kernel
theorem dl_855 : decode code 855 = .ok (.istore 5, 2) := by decide +kernel
theorem dl_857 : decode code 857 = .ok (.aload_n 2, 1) := by decide +kernel
theorem dl_858 : decode code 858 = .ok (.aload_n 0, 1) := by decide +kernel
theorem dl_859 : decode code 859 = .ok (.iload 4, 2) := by decide +kernel
theorem dl_861 : decode code 861 = .ok (.iconst 1, 1) := by decide +kernel
theorem dl_862 : decode code 862 = .ok (.iadd, 1) := by decide +kernel
theorem dl_863 : decode code 863 = .ok (.iaload, 1) := by decide +kernel
theorem dl_864 : decode code 864 = .ok (.invokevirtual 139, 3) := by decide +kernel
theorem dl_867 : decode code 867 = .ok (.istore 6, 2) := by decide +kernel
theorem dl_869 : decode code 869 = .ok (.aload_n 2, 1) := by decide +kernel
theorem dl_870 : decode code 870 = .ok (.invokevirtual 100, 3) := by decide +kernel
theorem dl_873 : decode code 873 = .ok (.iload 5, 2) := by decide +kernel
theorem dl_875 : decode code 875 = .ok (.if_icmp .eq 5, 3) := by decide +kernel
theorem dl_878 : decode code 878 = .ok (.iconst 0, 1) := by decide +kernel
theorem dl_879 : decode code 879 = .ok (.ireturn, 1) := by decide +kernel
theorem dl_880 : decode code 880 = .ok (.iload 5, 2) := by decide +kernel
theorem dl_882 : decode code 882 = .ok (.ifCond .ne 15, 3) := by decide +kernel
theorem dl_885 : decode code 885 = .ok (.aload_n 3, 1) := by decide +kernel
theorem dl_886 : decode code 886 = .ok (.iconst 0, 1) := by decide +kernel
theorem dl_887 : decode code 887 = .ok (.laload, 1) := by decide +kernel
theorem dl_888 : decode code 888 = .ok (.iload 6, 2) := by decide +kernel
theorem dl_890 : decode code 890 = .ok (.i2l, 1) := by decide +kernel
theorem dl_891 : decode code 891 = .ok (.lcmp, 1) := by decide +kernel
theorem dl_892 : decode code 892 = .ok (.ifCond .eq 5, 3) := by decide +kernel
theorem dl_895 : decode code 895 = .ok (.iconst 0, 1) := by decide +kernel
theorem dl_896 : decode code 896 = .ok (.ireturn, 1) := by decide +kernel
theorem dl_897 : decode code 897 = .ok (.goto 784, 3) := by decide +kernel
set_option maxHeartbeats 4000000 in
set_option maxRecDepth 100000 in
theorem lc_10 {Iv : CS → MS → Prop} (P : PP_hide Iv) {p : Program} {l : Launch} {e : Env} {sv : State} {m : MethodId} {args : Array Value} {below : List Frame} {meth : Method} {c : Code} {Q : State → Prop} {b L : Nat} {xs : Nat → Int32} {g : Gx} {A : Nat → Prop} (hl0 : l.stackTraces = false) (C0 : ct_Cx R_La code 8 p sv m args meth c g A) (hX : va_X b L xs sv sv.heap) (hbl : b < sv.heap.size) (hbA : ¬ A b) {i : Int32} (hi : vp_in i L ∧ vp_in (i + 1) L ∧ vp_in (i + 2) L ∧ vp_in (i + 3) L ∧ vp_in (i + 4) L) {ws : va_W} {H : Heap} {locs : List Loc} {cells slots : Nat} {s : CS} {t : MS} {out : Nat → Int64} {ls : Array Slot} (hw : ct_Wd g A sv ws H locs) (hW : LWd g ws s t out) (hI : Iv s t) (hl : lv_has ls 8 [(4, .int i), (0, .ref b), (1, .ref (g.2.1 0)), (2, .ref (g.2.1 35)), (3, .ref (g.2.1 47))]) (hc : cells + 20 ≤ 601024) (hs : slots + 120 ≤ 7293034)
    (kk : ∀ (ws : va_W) (H : Heap) (locs : List Loc) (cells1 slots1 : Nat) (s : CS) (t : MS) (out : Nat → Int64) (ls : Array Slot), ct_Wd g A sv ws H locs → LWd g ws s t out → Iv s t → lv_has ls 8 [(4, .int i), (0, .ref b), (1, .ref (g.2.1 0)), (2, .ref (g.2.1 35)), (3, .ref (g.2.1 47))] → cells1 ≤ cells + 20 → slots1 ≤ slots + 120 → W p l e room_1 sv m args below meth c H locs cells1 slots1 Q (F0 m 1681 ls [])) : W p l e room_1 sv m args below meth c H locs cells slots Q (F0 m 844 ls []) := by
  have hx := C0.1
  have hb := C0.2.1
  refine lv_aload_n hx hb dl_844 rfl (lv_at hl 2 rfl) ?_
  refine lv_aload_n hx hb dl_845 rfl (lv_at hl 1 rfl) ?_
  refine lv_iload hx hb dl_846 (lv_at hl 0 rfl) ?_
  refine lv_iconst (v := 1) hx hb dl_848 (by decide) ?_
  refine lv_iadd hx hb dl_849 ?_
  refine va_sld hx hb hX hbl hbA hw.2.2 hi.2.1 dl_850 ?_
  refine lv_aload_n hx hb dl_851 rfl (lv_at hl 4 rfl) ?_
  obtain ⟨o9, r9, t9, e1, e2, hk, hth, hI, hv⟩ := P s t hI (xs (i + 1).toNatClampNeg)
  refine ct_callW (hh := hh_La_hide) C0 hw hl.1 wd_448 wd_449 wd_0 wd_450 (fun sz => w_La_hide l g ws sz hW.cs hW.2.2 hl0 e1 hk) (nA := 3) (rm := rm_La_hide) (by decide +kernel) rfl ⟨rfl, rfl⟩ (by decide) ⟨by show cells + 1 ≤ 601024; omega, by show slots + 6 ≤ 7293034; omega⟩ (As := [.ref (g.2.1 0), .int (xs (i + 1).toNatClampNeg), .ref (g.2.1 47)]) (rest := []) rfl (Nat.le_of_ble_eq_true rfl) dl_852 (fun ws H locs hw hp => ?_)
  have hW := hW.wr hp
  clear hp
  refine lv_istore (lv' := [(5, .int (wr_code o9)), (4, .int i), (0, .ref b), (1, .ref (g.2.1 0)), (2, .ref (g.2.1 35)), (3, .ref (g.2.1 47))]) hx hb dl_855 hl (by decide) rfl (fun ls hl => ?_)
  refine lv_aload_n hx hb dl_857 rfl (lv_at hl 4 rfl) ?_
  refine lv_aload_n hx hb dl_858 rfl (lv_at hl 2 rfl) ?_
  refine lv_iload hx hb dl_859 (lv_at hl 1 rfl) ?_
  refine lv_iconst (v := 1) hx hb dl_861 (by decide) ?_
  refine lv_iadd hx hb dl_862 ?_
  refine va_sld hx hb hX hbl hbA hw.2.2 hi.2.1 dl_863 ?_
  refine ct_callVi C0 hw hl.1 (q0 := 35) (hW.2.1 35 (by decide) (by decide)) rfl (ct_giV wd_870 wd_871 wd_872 wd_7 wd_873) (fun sz => s_Mo_hide l g ws sz hW.ms e2) (nA := 1) (rm := rm_Mo_hide) (by decide +kernel) rfl ⟨rfl, rfl⟩ (by decide) ⟨by show cells + 1 + 0 ≤ 601024; omega, by show slots + 6 + 0 ≤ 7293034; omega⟩ (As := [.int (xs (i + 1).toNatClampNeg)]) (rest := []) rfl (Nat.le_of_ble_eq_true rfl) dl_864 (fun ws1 H locs hw hp => ?_)
  have hW := hW.mo hp
  clear hp
  generalize ws1 = ws at hw hW
  refine lv_istore (lv' := [(6, .int r9), (5, .int (wr_code o9)), (4, .int i), (0, .ref b), (1, .ref (g.2.1 0)), (2, .ref (g.2.1 35)), (3, .ref (g.2.1 47))]) hx hb dl_867 hl (by decide) rfl (fun ls hl => ?_)
  refine lv_aload_n hx hb dl_869 rfl (lv_at hl 5 rfl) ?_
  refine ct_callVi C0 hw hl.1 (q0 := 35) (hW.2.1 35 (by decide) (by decide)) rfl (ct_giV wd_790 wd_791 wd_792 wd_7 wd_793) (fun sz => s_Mo_thrown l g ws sz hW.ms (show fn_Mo_thrown t9 = some (ms_I t9 0) from rfl)) (nA := 0) (rm := rm_Mo_thrown) (by decide +kernel) rfl ⟨rfl, rfl⟩ (by decide) ⟨by show cells + 1 + 0 ≤ 601024; omega, by show slots + 6 + 0 ≤ 7293034; omega⟩ (As := []) (rest := []) rfl (Nat.le_of_ble_eq_true rfl) dl_870 (fun ws1 H locs hw hp => ?_)
  rw [hp] at hw
  clear hp
  refine lv_iload hx hb dl_873 (lv_at hl 1 rfl) ?_
  refine lv_icmp_eq hx hb (tgt := 880) dl_875 (by decide) (fun _ => ?_) (fun hc9 => absurd hth hc9)
  refine lv_iload hx hb dl_880 (lv_at hl 1 rfl) ?_
  have hE : W p l e room_1 sv m args below meth c H locs (cells + 1 + 0) (slots + 6 + 0) Q (F0 m 897 ls []) := by
    refine lv_goto hx hb (tgt := 1681) dl_897 (by decide) ?_
    exact kk ws H locs _ _ _ _ _ ls hw hW hI (lv_sub hl [2, 3, 4, 5, 6] rfl) (by omega) (by omega)
  refine lv_if_ne hx hb (tgt := 897) dl_882 (by decide) (fun _ => hE) (fun hz => ?_)
  refine lv_aload_n hx hb dl_885 rfl (lv_at hl 6 rfl) ?_
  refine lv_iconst (v := 0) hx hb dl_886 (by decide) ?_
  refine va_lald hx hb C0.2.2.2.2.2.1.1 hw.1 47 2 hW.2.2 rfl (ct_inR_vp (by decide)) dl_887 ?_
  refine lv_iload hx hb dl_888 (lv_at hl 0 rfl) ?_
  refine lv_i2l hx hb dl_890 rfl ?_
  refine W.lcmp hx hb dl_891 ?_
  refine lv_if_eq hx hb (tgt := 897) dl_892 (by decide) (fun _ => hE) (fun hz2 => absurd ((lg_cmp_eq _ _).mpr (wr_eqI hz hv)) hz2)
