theorem dl_900 : decode code 900 = .ok (.aload_n 1, 1) := by decide +kernel
theorem dl_901 : decode code 901 = .ok (.aload_n 0, 1) := by decide +kernel
theorem dl_902 : decode code 902 = .ok (.iload 4, 2) := by decide +kernel
theorem dl_904 : decode code 904 = .ok (.iconst 1, 1) := by decide +kernel
theorem dl_905 : decode code 905 = .ok (.iadd, 1) := by decide +kernel
theorem dl_906 : decode code 906 = .ok (.iaload, 1) := by decide +kernel
theorem dl_907 : decode code 907 = .ok (.aload_n 0, 1) := by decide +kernel
theorem dl_908 : decode code 908 = .ok (.iload 4, 2) := by decide +kernel
theorem dl_910 : decode code 910 = .ok (.iconst 2, 1) := by decide +kernel
theorem dl_911 : decode code 911 = .ok (.iadd, 1) := by decide +kernel
theorem dl_912 : decode code 912 = .ok (.iaload, 1) := by decide +kernel
theorem dl_913 : decode code 913 = .ok (.aload_n 0, 1) := by decide +kernel
theorem dl_914 : decode code 914 = .ok (.iload 4, 2) := by decide +kernel
theorem dl_916 : decode code 916 = .ok (.iconst 3, 1) := by decide +kernel
theorem dl_917 : decode code 917 = .ok (.iadd, 1) := by decide +kernel
theorem dl_918 : decode code 918 = .ok (.iaload, 1) := by decide +kernel
theorem dl_919 : decode code 919 = .ok (.ifCond .eq 7, 3) := by decide +kernel
theorem dl_922 : decode code 922 = .ok (.iconst 1, 1) := by decide +kernel
theorem dl_923 : decode code 923 = .ok (.goto 4, 3) := by decide +kernel
theorem dl_926 : decode code 926 = .ok (.iconst 0, 1) := by decide +kernel
theorem dl_927 : decode code 927 = .ok (.aload_n 3, 1) := by decide +kernel
theorem dl_928 : decode code 928 = .ok (.invokestatic 140, 3) := by decide +kernel
theorem dl_931 : decode code 931 = .ok (.istore 5, 2) := by decide +kernel
theorem dl_933 : decode code 933 = .ok (.aload_n 2, 1) := by decide +kernel
theorem dl_934 : decode code 934 = .ok (.aload_n 0, 1) := by decide +kernel
theorem dl_935 : decode code 935 = .ok (.iload 4, 2) := by decide +kernel
theorem dl_937 : decode code 937 = .ok (.iconst 1, 1) := by decide +kernel
theorem dl_938 : decode code 938 = .ok (.iadd, 1) := by decide +kernel
theorem dl_939 : decode code 939 = .ok (.iaload, 1) := by decide +kernel
theorem dl_940 : decode code 940 = .ok (.aload_n 0, 1) := by decide +kernel
theorem dl_941 : decode code 941 = .ok (.iload 4, 2) := by decide +kernel
theorem dl_943 : decode code 943 = .ok (.iconst 2, 1) := by decide +kernel
theorem dl_944 : decode code 944 = .ok (.iadd, 1) := by decide +kernel
theorem dl_945 : decode code 945 = .ok (.iaload, 1) := by decide +kernel
theorem dl_946 : decode code 946 = .ok (.aload_n 0, 1) := by decide +kernel
theorem dl_947 : decode code 947 = .ok (.iload 4, 2) := by decide +kernel
theorem dl_949 : decode code 949 = .ok (.iconst 3, 1) := by decide +kernel
theorem dl_950 : decode code 950 = .ok (.iadd, 1) := by decide +kernel
theorem dl_951 : decode code 951 = .ok (.iaload, 1) := by decide +kernel
theorem dl_952 : decode code 952 = .ok (.ifCond .eq 7, 3) := by decide +kernel
theorem dl_955 : decode code 955 = .ok (.iconst 1, 1) := by decide +kernel
theorem dl_956 : decode code 956 = .ok (.goto 4, 3) := by decide +kernel
theorem dl_959 : decode code 959 = .ok (.iconst 0, 1) := by decide +kernel
theorem dl_960 : decode code 960 = .ok (.invokevirtual 142, 3) := by decide +kernel
theorem dl_963 : decode code 963 = .ok (.lstore 6, 2) := by decide +kernel
theorem dl_965 : decode code 965 = .ok (.aload_n 2, 1) := by decide +kernel
theorem dl_966 : decode code 966 = .ok (.invokevirtual 100, 3) := by decide +kernel
theorem dl_969 : decode code 969 = .ok (.iload 5, 2) := by decide +kernel
theorem dl_971 : decode code 971 = .ok (.if_icmp .eq 5, 3) := by decide +kernel
theorem dl_974 : decode code 974 = .ok (.iconst 0, 1) := by decide +kernel
theorem dl_975 : decode code 975 = .ok (.ireturn, 1) := by decide +kernel
theorem dl_976 : decode code 976 = .ok (.iload 5, 2) := by decide +kernel
theorem dl_978 : decode code 978 = .ok (.ifCond .ne 14, 3) := by decide +kernel
theorem dl_981 : decode code 981 = .ok (.aload_n 3, 1) := by decide +kernel
theorem dl_982 : decode code 982 = .ok (.iconst 0, 1) := by decide +kernel
theorem dl_983 : decode code 983 = .ok (.laload, 1) := by decide +kernel
theorem dl_984 : decode code 984 = .ok (.lload 6, 2) := by decide +kernel
theorem dl_986 : decode code 986 = .ok (.lcmp, 1) := by decide +kernel
theorem dl_987 : decode code 987 = .ok (.ifCond .eq 5, 3) := by decide +kernel
theorem dl_990 : decode code 990 = .ok (.iconst 0, 1) := by decide +kernel
theorem dl_991 : decode code 991 = .ok (.ireturn, 1) := by decide +kernel
theorem dl_992 : decode code 992 = .ok (.goto 689, 3) := by decide +kernel
set_option maxHeartbeats 4000000 in
set_option maxRecDepth 100000 in
theorem lc_11 {Iv : CS → MS → Prop} (P : PP_factor Iv) {p : Program} {l : Launch} {e : Env} {sv : State} {m : MethodId} {args : Array Value} {below : List Frame} {meth : Method} {c : Code} {Q : State → Prop} {b L : Nat} {xs : Nat → Int32} {g : Gx} {A : Nat → Prop} (hl0 : l.stackTraces = false) (C0 : ct_Cx R_La code 8 p sv m args meth c g A) (hX : va_X b L xs sv sv.heap) (hbl : b < sv.heap.size) (hbA : ¬ A b) {i : Int32} (hi : vp_in i L ∧ vp_in (i + 1) L ∧ vp_in (i + 2) L ∧ vp_in (i + 3) L ∧ vp_in (i + 4) L) {ws : va_W} {H : Heap} {locs : List Loc} {cells slots : Nat} {s : CS} {t : MS} {out : Nat → Int64} {ls : Array Slot} (hw : ct_Wd g A sv ws H locs) (hW : LWd g ws s t out) (hI : Iv s t) (hl : lv_has ls 8 [(4, .int i), (0, .ref b), (1, .ref (g.2.1 0)), (2, .ref (g.2.1 35)), (3, .ref (g.2.1 47))]) (hc : cells + 20 ≤ 601024) (hs : slots + 120 ≤ 7293034)
    (kk : ∀ (ws : va_W) (H : Heap) (locs : List Loc) (cells1 slots1 : Nat) (s : CS) (t : MS) (out : Nat → Int64) (ls : Array Slot), ct_Wd g A sv ws H locs → LWd g ws s t out → Iv s t → lv_has ls 8 [(4, .int i), (0, .ref b), (1, .ref (g.2.1 0)), (2, .ref (g.2.1 35)), (3, .ref (g.2.1 47))] → cells1 ≤ cells + 20 → slots1 ≤ slots + 120 → W p l e room_1 sv m args below meth c H locs cells1 slots1 Q (F0 m 1681 ls [])) : W p l e room_1 sv m args below meth c H locs cells slots Q (F0 m 900 ls []) := by
  have hx := C0.1
  have hb := C0.2.1
  refine lv_aload_n hx hb dl_900 rfl (lv_at hl 2 rfl) ?_
  refine lv_aload_n hx hb dl_901 rfl (lv_at hl 1 rfl) ?_
  refine lv_iload hx hb dl_902 (lv_at hl 0 rfl) ?_
  refine lv_iconst (v := 1) hx hb dl_904 (by decide) ?_
  refine lv_iadd hx hb dl_905 ?_
  refine va_sld hx hb hX hbl hbA hw.2.2 hi.2.1 dl_906 ?_
  refine lv_aload_n hx hb dl_907 rfl (lv_at hl 1 rfl) ?_
  refine lv_iload hx hb dl_908 (lv_at hl 0 rfl) ?_
  refine lv_iconst (v := 2) hx hb dl_910 (by decide) ?_
  refine lv_iadd hx hb dl_911 ?_
  refine va_sld hx hb hX hbl hbA hw.2.2 hi.2.2.1 dl_912 ?_
  refine lv_aload_n hx hb dl_913 rfl (lv_at hl 1 rfl) ?_
  refine lv_iload hx hb dl_914 (lv_at hl 0 rfl) ?_
  refine lv_iconst (v := 3) hx hb dl_916 (by decide) ?_
  refine lv_iadd hx hb dl_917 ?_
  refine va_sld hx hb hX hbl hbA hw.2.2 hi.2.2.2.1 dl_918 ?_
  refine lw_bz (L := 926) (M := 927) hx hb dl_919 (by decide) dl_922 dl_923 (by decide) dl_926 rfl ?_
  refine lv_aload_n hx hb dl_927 rfl (lv_at hl 4 rfl) ?_
  obtain ⟨o9, r9, t9, e1, e2, hk, hth, hI, hv⟩ := P s t hI (xs (i + 1).toNatClampNeg) (xs (i + 2).toNatClampNeg) (bz (xs (i + 3).toNatClampNeg)) (bz_01 _)
  refine ct_callW (hh := hh_La_factor) C0 hw hl.1 wd_455 wd_456 wd_0 wd_457 (fun sz => w_La_factor l g ws sz hW.cs hW.2.2 hl0 e1 hk) (nA := 5) (rm := rm_La_factor) (by decide +kernel) rfl ⟨rfl, rfl⟩ (by decide) ⟨by show cells + 2 ≤ 601024; omega, by show slots + 12 ≤ 7293034; omega⟩ (As := [.ref (g.2.1 0), .int (xs (i + 1).toNatClampNeg), .int (xs (i + 2).toNatClampNeg), .int (bz (xs (i + 3).toNatClampNeg)), .ref (g.2.1 47)]) (rest := []) rfl (Nat.le_of_ble_eq_true rfl) dl_928 (fun ws H locs hw hp => ?_)
  have hW := hW.wr hp
  clear hp
  refine lv_istore (lv' := [(5, .int (wr_code o9)), (4, .int i), (0, .ref b), (1, .ref (g.2.1 0)), (2, .ref (g.2.1 35)), (3, .ref (g.2.1 47))]) hx hb dl_931 hl (by decide) rfl (fun ls hl => ?_)
  refine lv_aload_n hx hb dl_933 rfl (lv_at hl 4 rfl) ?_
  refine lv_aload_n hx hb dl_934 rfl (lv_at hl 2 rfl) ?_
  refine lv_iload hx hb dl_935 (lv_at hl 1 rfl) ?_
  refine lv_iconst (v := 1) hx hb dl_937 (by decide) ?_
  refine lv_iadd hx hb dl_938 ?_
  refine va_sld hx hb hX hbl hbA hw.2.2 hi.2.1 dl_939 ?_
  refine lv_aload_n hx hb dl_940 rfl (lv_at hl 2 rfl) ?_
  refine lv_iload hx hb dl_941 (lv_at hl 1 rfl) ?_
  refine lv_iconst (v := 2) hx hb dl_943 (by decide) ?_
  refine lv_iadd hx hb dl_944 ?_
  refine va_sld hx hb hX hbl hbA hw.2.2 hi.2.2.1 dl_945 ?_
  refine lv_aload_n hx hb dl_946 rfl (lv_at hl 2 rfl) ?_
  refine lv_iload hx hb dl_947 (lv_at hl 1 rfl) ?_
  refine lv_iconst (v := 3) hx hb dl_949 (by decide) ?_
  refine lv_iadd hx hb dl_950 ?_
  refine va_sld hx hb hX hbl hbA hw.2.2 hi.2.2.2.1 dl_951 ?_
  refine lw_bz (L := 959) (M := 960) hx hb dl_952 (by decide) dl_955 dl_956 (by decide) dl_959 rfl ?_
  refine ct_callVl C0 hw hl.1 (q0 := 35) (hW.2.1 35 (by decide) (by decide)) rfl (ct_giV wd_874 wd_875 wd_876 wd_7 wd_877) (fun sz => s_Mo_factor l g ws sz hW.ms e2) (nA := 3) (rm := rm_Mo_factor) (by decide +kernel) rfl ⟨rfl, rfl⟩ (by decide) ⟨by show cells + 2 + 0 ≤ 601024; omega, by show slots + 12 + 0 ≤ 7293034; omega⟩ (As := [.int (xs (i + 1).toNatClampNeg), .int (xs (i + 2).toNatClampNeg), .int (bz (xs (i + 3).toNatClampNeg))]) (rest := []) rfl (Nat.le_of_ble_eq_true rfl) dl_960 (fun ws1 H locs hw hp => ?_)
  have hW := hW.mo hp
  clear hp
  generalize ws1 = ws at hw hW
  refine lv_lstore (lv' := [(6, .long r9), (5, .int (wr_code o9)), (4, .int i), (0, .ref b), (1, .ref (g.2.1 0)), (2, .ref (g.2.1 35)), (3, .ref (g.2.1 47))]) hx hb dl_963 hl (by decide) rfl (fun ls hl => ?_)
  refine lv_aload_n hx hb dl_965 rfl (lv_at hl 5 rfl) ?_
  refine ct_callVi C0 hw hl.1 (q0 := 35) (hW.2.1 35 (by decide) (by decide)) rfl (ct_giV wd_790 wd_791 wd_792 wd_7 wd_793) (fun sz => s_Mo_thrown l g ws sz hW.ms (show fn_Mo_thrown t9 = some (ms_I t9 0) from rfl)) (nA := 0) (rm := rm_Mo_thrown) (by decide +kernel) rfl ⟨rfl, rfl⟩ (by decide) ⟨by show cells + 2 + 0 ≤ 601024; omega, by show slots + 12 + 0 ≤ 7293034; omega⟩ (As := []) (rest := []) rfl (Nat.le_of_ble_eq_true rfl) dl_966 (fun ws1 H locs hw hp => ?_)
  rw [hp] at hw
  clear hp
  refine lv_iload hx hb dl_969 (lv_at hl 1 rfl) ?_
  refine lv_icmp_eq hx hb (tgt := 976) dl_971 (by decide) (fun _ => ?_) (fun hc9 => absurd hth hc9)
  refine lv_iload hx hb dl_976 (lv_at hl 1 rfl) ?_
  have hE : W p l e room_1 sv m args below meth c H locs (cells + 2 + 0) (slots + 12 + 0) Q (F0 m 992 ls []) := by
    refine lv_goto hx hb (tgt := 1681) dl_992 (by decide) ?_
    exact kk ws H locs _ _ _ _ _ ls hw hW hI (lv_sub hl [2, 3, 4, 5, 6] rfl) (by omega) (by omega)
  refine lv_if_ne hx hb (tgt := 992) dl_978 (by decide) (fun _ => hE) (fun hz => ?_)
  refine lv_aload_n hx hb dl_981 rfl (lv_at hl 6 rfl) ?_
  refine lv_iconst (v := 0) hx hb dl_982 (by decide) ?_
  refine va_lald hx hb C0.2.2.2.2.2.1.1 hw.1 47 2 hW.2.2 rfl (ct_inR_vp (by decide)) dl_983 ?_
  refine lv_lload hx hb dl_984 (lv_at hl 0 rfl) ?_
  refine W.lcmp hx hb dl_986 ?_
  refine lv_if_eq hx hb (tgt := 992) dl_987 (by decide) (fun _ => hE) (fun hz2 => absurd ((lg_cmp_eq _ _).mpr (wr_eqL hz hv)) hz2)
theorem dl_995 : decode code 995 = .ok (.aload_n 1, 1) := by decide +kernel
theorem dl_996 : decode code 996 = .ok (.aload_n 0, 1) := by decide +kernel
theorem dl_997 : decode code 997 = .ok (.iload 4, 2) := by decide +kernel
theorem dl_999 : decode code 999 = .ok (.iconst 1, 1) := by decide +kernel
theorem dl_1000 : decode code 1000 = .ok (.iadd, 1) := by decide +kernel
theorem dl_1001 : decode code 1001 = .ok (.iaload, 1) := by decide +kernel
theorem dl_1002 : decode code 1002 = .ok (.aload_n 0, 1) := by decide +kernel
theorem dl_1003 : decode code 1003 = .ok (.iload 4, 2) := by decide +kernel
theorem dl_1005 : decode code 1005 = .ok (.iconst 2, 1) := by decide +kernel
theorem dl_1006 : decode code 1006 = .ok (.iadd, 1) := by decide +kernel
theorem dl_1007 : decode code 1007 = .ok (.iaload, 1) := by decide +kernel
theorem dl_1008 : decode code 1008 = .ok (.aload_n 0, 1) := by decide +kernel
theorem dl_1009 : decode code 1009 = .ok (.iload 4, 2) := by decide +kernel
theorem dl_1011 : decode code 1011 = .ok (.iconst 3, 1) := by decide +kernel
theorem dl_1012 : decode code 1012 = .ok (.iadd, 1) := by decide +kernel
theorem dl_1013 : decode code 1013 = .ok (.iaload, 1) := by decide +kernel
theorem dl_1014 : decode code 1014 = .ok (.ifCond .eq 7, 3) := by decide +kernel
theorem dl_1017 : decode code 1017 = .ok (.iconst 1, 1) := by decide +kernel
theorem dl_1018 : decode code 1018 = .ok (.goto 4, 3) := by decide +kernel
theorem dl_1021 : decode code 1021 = .ok (.iconst 0, 1) := by decide +kernel
theorem dl_1022 : decode code 1022 = .ok (.aload_n 3, 1) := by decide +kernel
theorem dl_1023 : decode code 1023 = .ok (.invokestatic 143, 3) := by decide +kernel
theorem dl_1026 : decode code 1026 = .ok (.istore 5, 2) := by decide +kernel
theorem dl_1028 : decode code 1028 = .ok (.aload_n 2, 1) := by decide +kernel
theorem dl_1029 : decode code 1029 = .ok (.aload_n 0, 1) := by decide +kernel
theorem dl_1030 : decode code 1030 = .ok (.iload 4, 2) := by decide +kernel
theorem dl_1032 : decode code 1032 = .ok (.iconst 1, 1) := by decide +kernel
theorem dl_1033 : decode code 1033 = .ok (.iadd, 1) := by decide +kernel
theorem dl_1034 : decode code 1034 = .ok (.iaload, 1) := by decide +kernel
theorem dl_1035 : decode code 1035 = .ok (.aload_n 0, 1) := by decide +kernel
theorem dl_1036 : decode code 1036 = .ok (.iload 4, 2) := by decide +kernel
theorem dl_1038 : decode code 1038 = .ok (.iconst 2, 1) := by decide +kernel
theorem dl_1039 : decode code 1039 = .ok (.iadd, 1) := by decide +kernel
theorem dl_1040 : decode code 1040 = .ok (.iaload, 1) := by decide +kernel
theorem dl_1041 : decode code 1041 = .ok (.aload_n 0, 1) := by decide +kernel
theorem dl_1042 : decode code 1042 = .ok (.iload 4, 2) := by decide +kernel
theorem dl_1044 : decode code 1044 = .ok (.iconst 3, 1) := by decide +kernel
theorem dl_1045 : decode code 1045 = .ok (.iadd, 1) := by decide +kernel
theorem dl_1046 : decode code 1046 = .ok (.iaload, 1) := by decide +kernel
theorem dl_1047 : decode code 1047 = .ok (.ifCond .eq 7, 3) := by decide +kernel
theorem dl_1050 : decode code 1050 = .ok (.iconst 1, 1) := by decide +kernel
theorem dl_1051 : decode code 1051 = .ok (.goto 4, 3) := by decide +kernel
theorem dl_1054 : decode code 1054 = .ok (.iconst 0, 1) := by decide +kernel
theorem dl_1055 : decode code 1055 = .ok (.invokevirtual 145, 3) := by decide +kernel
theorem dl_1058 : decode code 1058 = .ok (.lstore 6, 2) := by decide +kernel
theorem dl_1060 : decode code 1060 = .ok (.aload_n 2, 1) := by decide +kernel
theorem dl_1061 : decode code 1061 = .ok (.invokevirtual 100, 3) := by decide +kernel
theorem dl_1064 : decode code 1064 = .ok (.iload 5, 2) := by decide +kernel
theorem dl_1066 : decode code 1066 = .ok (.if_icmp .eq 5, 3) := by decide +kernel
theorem dl_1069 : decode code 1069 = .ok (.iconst 0, 1) := by decide +kernel
theorem dl_1070 : decode code 1070 = .ok (.ireturn, 1) := by decide +kernel
theorem dl_1071 : decode code 1071 = .ok (.iload 5, 2) := by decide +kernel
theorem dl_1073 : decode code 1073 = .ok (.ifCond .ne 14, 3) := by decide +kernel
theorem dl_1076 : decode code 1076 = .ok (.aload_n 3, 1) := by decide +kernel
theorem dl_1077 : decode code 1077 = .ok (.iconst 0, 1) := by decide +kernel
theorem dl_1078 : decode code 1078 = .ok (.laload, 1) := by decide +kernel
theorem dl_1079 : decode code 1079 = .ok (.lload 6, 2) := by decide +kernel
theorem dl_1081 : decode code 1081 = .ok (.lcmp, 1) := by decide +kernel
theorem dl_1082 : decode code 1082 = .ok (.ifCond .eq 5, 3) := by decide +kernel
theorem dl_1085 : decode code 1085 = .ok (.iconst 0, 1) := by decide +kernel
theorem dl_1086 : decode code 1086 = .ok (.ireturn, 1) := by decide +kernel
theorem dl_1087 : decode code 1087 = .ok (.goto 594, 3) := by decide +kernel
set_option maxHeartbeats 4000000 in
set_option maxRecDepth 100000 in
theorem lc_12 {Iv : CS → MS → Prop} (P : PP_ultimate Iv) {p : Program} {l : Launch} {e : Env} {sv : State} {m : MethodId} {args : Array Value} {below : List Frame} {meth : Method} {c : Code} {Q : State → Prop} {b L : Nat} {xs : Nat → Int32} {g : Gx} {A : Nat → Prop} (hl0 : l.stackTraces = false) (C0 : ct_Cx R_La code 8 p sv m args meth c g A) (hX : va_X b L xs sv sv.heap) (hbl : b < sv.heap.size) (hbA : ¬ A b) {i : Int32} (hi : vp_in i L ∧ vp_in (i + 1) L ∧ vp_in (i + 2) L ∧ vp_in (i + 3) L ∧ vp_in (i + 4) L) {ws : va_W} {H : Heap} {locs : List Loc} {cells slots : Nat} {s : CS} {t : MS} {out : Nat → Int64} {ls : Array Slot} (hw : ct_Wd g A sv ws H locs) (hW : LWd g ws s t out) (hI : Iv s t) (hl : lv_has ls 8 [(4, .int i), (0, .ref b), (1, .ref (g.2.1 0)), (2, .ref (g.2.1 35)), (3, .ref (g.2.1 47))]) (hc : cells + 20 ≤ 601024) (hs : slots + 120 ≤ 7293034)
    (kk : ∀ (ws : va_W) (H : Heap) (locs : List Loc) (cells1 slots1 : Nat) (s : CS) (t : MS) (out : Nat → Int64) (ls : Array Slot), ct_Wd g A sv ws H locs → LWd g ws s t out → Iv s t → lv_has ls 8 [(4, .int i), (0, .ref b), (1, .ref (g.2.1 0)), (2, .ref (g.2.1 35)), (3, .ref (g.2.1 47))] → cells1 ≤ cells + 20 → slots1 ≤ slots + 120 → W p l e room_1 sv m args below meth c H locs cells1 slots1 Q (F0 m 1681 ls [])) : W p l e room_1 sv m args below meth c H locs cells slots Q (F0 m 995 ls []) := by
  have hx := C0.1
  have hb := C0.2.1
  refine lv_aload_n hx hb dl_995 rfl (lv_at hl 2 rfl) ?_
  refine lv_aload_n hx hb dl_996 rfl (lv_at hl 1 rfl) ?_
  refine lv_iload hx hb dl_997 (lv_at hl 0 rfl) ?_
  refine lv_iconst (v := 1) hx hb dl_999 (by decide) ?_
  refine lv_iadd hx hb dl_1000 ?_
  refine va_sld hx hb hX hbl hbA hw.2.2 hi.2.1 dl_1001 ?_
  refine lv_aload_n hx hb dl_1002 rfl (lv_at hl 1 rfl) ?_
  refine lv_iload hx hb dl_1003 (lv_at hl 0 rfl) ?_
  refine lv_iconst (v := 2) hx hb dl_1005 (by decide) ?_
  refine lv_iadd hx hb dl_1006 ?_
  refine va_sld hx hb hX hbl hbA hw.2.2 hi.2.2.1 dl_1007 ?_
  refine lv_aload_n hx hb dl_1008 rfl (lv_at hl 1 rfl) ?_
  refine lv_iload hx hb dl_1009 (lv_at hl 0 rfl) ?_
  refine lv_iconst (v := 3) hx hb dl_1011 (by decide) ?_
  refine lv_iadd hx hb dl_1012 ?_
  refine va_sld hx hb hX hbl hbA hw.2.2 hi.2.2.2.1 dl_1013 ?_
  refine lw_bz (L := 1021) (M := 1022) hx hb dl_1014 (by decide) dl_1017 dl_1018 (by decide) dl_1021 rfl ?_
  refine lv_aload_n hx hb dl_1022 rfl (lv_at hl 4 rfl) ?_
  obtain ⟨o9, r9, t9, e1, e2, hk, hth, hI, hv⟩ := P s t hI (xs (i + 1).toNatClampNeg) (xs (i + 2).toNatClampNeg) (bz (xs (i + 3).toNatClampNeg)) (bz_01 _)
  refine ct_callW (hh := hh_La_ultimate) C0 hw hl.1 wd_529 wd_530 wd_0 wd_531 (fun sz => w_La_ultimate l g ws sz hW.cs hW.2.2 hl0 e1 hk) (nA := 5) (rm := rm_La_ultimate) (by decide +kernel) rfl ⟨rfl, rfl⟩ (by decide) ⟨by show cells + 2 ≤ 601024; omega, by show slots + 12 ≤ 7293034; omega⟩ (As := [.ref (g.2.1 0), .int (xs (i + 1).toNatClampNeg), .int (xs (i + 2).toNatClampNeg), .int (bz (xs (i + 3).toNatClampNeg)), .ref (g.2.1 47)]) (rest := []) rfl (Nat.le_of_ble_eq_true rfl) dl_1023 (fun ws H locs hw hp => ?_)
  have hW := hW.wr hp
  clear hp
  refine lv_istore (lv' := [(5, .int (wr_code o9)), (4, .int i), (0, .ref b), (1, .ref (g.2.1 0)), (2, .ref (g.2.1 35)), (3, .ref (g.2.1 47))]) hx hb dl_1026 hl (by decide) rfl (fun ls hl => ?_)
  refine lv_aload_n hx hb dl_1028 rfl (lv_at hl 4 rfl) ?_
  refine lv_aload_n hx hb dl_1029 rfl (lv_at hl 2 rfl) ?_
  refine lv_iload hx hb dl_1030 (lv_at hl 1 rfl) ?_
  refine lv_iconst (v := 1) hx hb dl_1032 (by decide) ?_
  refine lv_iadd hx hb dl_1033 ?_
  refine va_sld hx hb hX hbl hbA hw.2.2 hi.2.1 dl_1034 ?_
  refine lv_aload_n hx hb dl_1035 rfl (lv_at hl 2 rfl) ?_
  refine lv_iload hx hb dl_1036 (lv_at hl 1 rfl) ?_
  refine lv_iconst (v := 2) hx hb dl_1038 (by decide) ?_
  refine lv_iadd hx hb dl_1039 ?_
  refine va_sld hx hb hX hbl hbA hw.2.2 hi.2.2.1 dl_1040 ?_
  refine lv_aload_n hx hb dl_1041 rfl (lv_at hl 2 rfl) ?_
  refine lv_iload hx hb dl_1042 (lv_at hl 1 rfl) ?_
  refine lv_iconst (v := 3) hx hb dl_1044 (by decide) ?_
  refine lv_iadd hx hb dl_1045 ?_
  refine va_sld hx hb hX hbl hbA hw.2.2 hi.2.2.2.1 dl_1046 ?_
  refine lw_bz (L := 1054) (M := 1055) hx hb dl_1047 (by decide) dl_1050 dl_1051 (by decide) dl_1054 rfl ?_
  refine ct_callVl C0 hw hl.1 (q0 := 35) (hW.2.1 35 (by decide) (by decide)) rfl (ct_giV wd_902 wd_903 wd_904 wd_7 wd_905) (fun sz => s_Mo_ultimate l g ws sz hW.ms e2) (nA := 3) (rm := rm_Mo_ultimate) (by decide +kernel) rfl ⟨rfl, rfl⟩ (by decide) ⟨by show cells + 2 + 0 ≤ 601024; omega, by show slots + 12 + 0 ≤ 7293034; omega⟩ (As := [.int (xs (i + 1).toNatClampNeg), .int (xs (i + 2).toNatClampNeg), .int (bz (xs (i + 3).toNatClampNeg))]) (rest := []) rfl (Nat.le_of_ble_eq_true rfl) dl_1055 (fun ws1 H locs hw hp => ?_)
  have hW := hW.mo hp
  clear hp
  generalize ws1 = ws at hw hW
  refine lv_lstore (lv' := [(6, .long r9), (5, .int (wr_code o9)), (4, .int i), (0, .ref b), (1, .ref (g.2.1 0)), (2, .ref (g.2.1 35)), (3, .ref (g.2.1 47))]) hx hb dl_1058 hl (by decide) rfl (fun ls hl => ?_)
  refine lv_aload_n hx hb dl_1060 rfl (lv_at hl 5 rfl) ?_
  refine ct_callVi C0 hw hl.1 (q0 := 35) (hW.2.1 35 (by decide) (by decide)) rfl (ct_giV wd_790 wd_791 wd_792 wd_7 wd_793) (fun sz => s_Mo_thrown l g ws sz hW.ms (show fn_Mo_thrown t9 = some (ms_I t9 0) from rfl)) (nA := 0) (rm := rm_Mo_thrown) (by decide +kernel) rfl ⟨rfl, rfl⟩ (by decide) ⟨by show cells + 2 + 0 ≤ 601024; omega, by show slots + 12 + 0 ≤ 7293034; omega⟩ (As := []) (rest := []) rfl (Nat.le_of_ble_eq_true rfl) dl_1061 (fun ws1 H locs hw hp => ?_)
  rw [hp] at hw
  clear hp
  refine lv_iload hx hb dl_1064 (lv_at hl 1 rfl) ?_
  refine lv_icmp_eq hx hb (tgt := 1071) dl_1066 (by decide) (fun _ => ?_) (fun hc9 => absurd hth hc9)
  refine lv_iload hx hb dl_1071 (lv_at hl 1 rfl) ?_
  have hE : W p l e room_1 sv m args below meth c H locs (cells + 2 + 0) (slots + 12 + 0) Q (F0 m 1087 ls []) := by
    refine lv_goto hx hb (tgt := 1681) dl_1087 (by decide) ?_
    exact kk ws H locs _ _ _ _ _ ls hw hW hI (lv_sub hl [2, 3, 4, 5, 6] rfl) (by omega) (by omega)
  refine lv_if_ne hx hb (tgt := 1087) dl_1073 (by decide) (fun _ => hE) (fun hz => ?_)
  refine lv_aload_n hx hb dl_1076 rfl (lv_at hl 6 rfl) ?_
  refine lv_iconst (v := 0) hx hb dl_1077 (by decide) ?_
  refine va_lald hx hb C0.2.2.2.2.2.1.1 hw.1 47 2 hW.2.2 rfl (ct_inR_vp (by decide)) dl_1078 ?_
  refine lv_lload hx hb dl_1079 (lv_at hl 0 rfl) ?_
  refine W.lcmp hx hb dl_1081 ?_
  refine lv_if_eq hx hb (tgt := 1087) dl_1082 (by decide) (fun _ => hE) (fun hz2 => absurd ((lg_cmp_eq _ _).mpr (wr_eqL hz hv)) hz2)
theorem dl_1090 : decode code 1090 = .ok (.aload_n 1, 1) := by decide +kernel
theorem dl_1091 : decode code 1091 = .ok (.aload_n 0, 1) := by decide +kernel
theorem dl_1092 : decode code 1092 = .ok (.iload 4, 2) := by decide +kernel
theorem dl_1094 : decode code 1094 = .ok (.iconst 1, 1) := by decide +kernel
theorem dl_1095 : decode code 1095 = .ok (.iadd, 1) := by decide +kernel
theorem dl_1096 : decode code 1096 = .ok (.iaload, 1) := by decide +kernel
theorem dl_1097 : decode code 1097 = .ok (.aload_n 0, 1) := by decide +kernel
theorem dl_1098 : decode code 1098 = .ok (.iload 4, 2) := by decide +kernel
theorem dl_1100 : decode code 1100 = .ok (.iconst 2, 1) := by decide +kernel
theorem dl_1101 : decode code 1101 = .ok (.iadd, 1) := by decide +kernel
theorem dl_1102 : decode code 1102 = .ok (.iaload, 1) := by decide +kernel
theorem dl_1103 : decode code 1103 = .ok (.aload_n 0, 1) := by decide +kernel
theorem dl_1104 : decode code 1104 = .ok (.iload 4, 2) := by decide +kernel
theorem dl_1106 : decode code 1106 = .ok (.iconst 3, 1) := by decide +kernel
theorem dl_1107 : decode code 1107 = .ok (.iadd, 1) := by decide +kernel
theorem dl_1108 : decode code 1108 = .ok (.iaload, 1) := by decide +kernel
theorem dl_1109 : decode code 1109 = .ok (.ifCond .eq 7, 3) := by decide +kernel
theorem dl_1112 : decode code 1112 = .ok (.iconst 1, 1) := by decide +kernel
theorem dl_1113 : decode code 1113 = .ok (.goto 4, 3) := by decide +kernel
theorem dl_1116 : decode code 1116 = .ok (.iconst 0, 1) := by decide +kernel
theorem dl_1117 : decode code 1117 = .ok (.aload_n 3, 1) := by decide +kernel
theorem dl_1118 : decode code 1118 = .ok (.invokestatic 146, 3) := by decide +kernel
theorem dl_1121 : decode code 1121 = .ok (.istore 5, 2) := by decide +kernel
theorem dl_1123 : decode code 1123 = .ok (.aload_n 2, 1) := by decide +kernel
theorem dl_1124 : decode code 1124 = .ok (.aload_n 0, 1) := by decide +kernel
theorem dl_1125 : decode code 1125 = .ok (.iload 4, 2) := by decide +kernel
theorem dl_1127 : decode code 1127 = .ok (.iconst 1, 1) := by decide +kernel
theorem dl_1128 : decode code 1128 = .ok (.iadd, 1) := by decide +kernel
theorem dl_1129 : decode code 1129 = .ok (.iaload, 1) := by decide +kernel
theorem dl_1130 : decode code 1130 = .ok (.aload_n 0, 1) := by decide +kernel
theorem dl_1131 : decode code 1131 = .ok (.iload 4, 2) := by decide +kernel
theorem dl_1133 : decode code 1133 = .ok (.iconst 2, 1) := by decide +kernel
theorem dl_1134 : decode code 1134 = .ok (.iadd, 1) := by decide +kernel
theorem dl_1135 : decode code 1135 = .ok (.iaload, 1) := by decide +kernel
theorem dl_1136 : decode code 1136 = .ok (.aload_n 0, 1) := by decide +kernel
theorem dl_1137 : decode code 1137 = .ok (.iload 4, 2) := by decide +kernel
theorem dl_1139 : decode code 1139 = .ok (.iconst 3, 1) := by decide +kernel
theorem dl_1140 : decode code 1140 = .ok (.iadd, 1) := by decide +kernel
theorem dl_1141 : decode code 1141 = .ok (.iaload, 1) := by decide +kernel
theorem dl_1142 : decode code 1142 = .ok (.ifCond .eq 7, 3) := by decide +kernel
theorem dl_1145 : decode code 1145 = .ok (.iconst 1, 1) := by decide +kernel
theorem dl_1146 : decode code 1146 = .ok (.goto 4, 3) := by decide +kernel
theorem dl_1149 : decode code 1149 = .ok (.iconst 0, 1) := by decide +kernel
theorem dl_1150 : decode code 1150 = .ok (.invokevirtual 148, 3) := by decide +kernel
theorem dl_1153 : decode code 1153 = .ok (.lstore 6, 2) := by decide +kernel
theorem dl_1155 : decode code 1155 = .ok (.aload_n 2, 1) := by decide +kernel
theorem dl_1156 : decode code 1156 = .ok (.invokevirtual 100, 3) := by decide +kernel
theorem dl_1159 : decode code 1159 = .ok (.iload 5, 2) := by decide +kernel
theorem dl_1161 : decode code 1161 = .ok (.if_icmp .eq 5, 3) := by decide +kernel
theorem dl_1164 : decode code 1164 = .ok (.iconst 0, 1) := by decide +kernel
theorem dl_1165 : decode code 1165 = .ok (.ireturn, 1) := by decide +kernel
theorem dl_1166 : decode code 1166 = .ok (.iload 5, 2) := by decide +kernel
theorem dl_1168 : decode code 1168 = .ok (.ifCond .ne 14, 3) := by decide +kernel
theorem dl_1171 : decode code 1171 = .ok (.aload_n 3, 1) := by decide +kernel
theorem dl_1172 : decode code 1172 = .ok (.iconst 0, 1) := by decide +kernel
theorem dl_1173 : decode code 1173 = .ok (.laload, 1) := by decide +kernel
theorem dl_1174 : decode code 1174 = .ok (.lload 6, 2) := by decide +kernel
theorem dl_1176 : decode code 1176 = .ok (.lcmp, 1) := by decide +kernel
theorem dl_1177 : decode code 1177 = .ok (.ifCond .eq 5, 3) := by decide +kernel
theorem dl_1180 : decode code 1180 = .ok (.iconst 0, 1) := by decide +kernel
theorem dl_1181 : decode code 1181 = .ok (.ireturn, 1) := by decide +kernel
theorem dl_1182 : decode code 1182 = .ok (.goto 499, 3) := by decide +kernel
set_option maxHeartbeats 4000000 in
set_option maxRecDepth 100000 in
theorem lc_13 {Iv : CS → MS → Prop} (P : PP_reserve Iv) {p : Program} {l : Launch} {e : Env} {sv : State} {m : MethodId} {args : Array Value} {below : List Frame} {meth : Method} {c : Code} {Q : State → Prop} {b L : Nat} {xs : Nat → Int32} {g : Gx} {A : Nat → Prop} (hl0 : l.stackTraces = false) (C0 : ct_Cx R_La code 8 p sv m args meth c g A) (hX : va_X b L xs sv sv.heap) (hbl : b < sv.heap.size) (hbA : ¬ A b) {i : Int32} (hi : vp_in i L ∧ vp_in (i + 1) L ∧ vp_in (i + 2) L ∧ vp_in (i + 3) L ∧ vp_in (i + 4) L) {ws : va_W} {H : Heap} {locs : List Loc} {cells slots : Nat} {s : CS} {t : MS} {out : Nat → Int64} {ls : Array Slot} (hw : ct_Wd g A sv ws H locs) (hW : LWd g ws s t out) (hI : Iv s t) (hl : lv_has ls 8 [(4, .int i), (0, .ref b), (1, .ref (g.2.1 0)), (2, .ref (g.2.1 35)), (3, .ref (g.2.1 47))]) (hc : cells + 20 ≤ 601024) (hs : slots + 120 ≤ 7293034)
    (kk : ∀ (ws : va_W) (H : Heap) (locs : List Loc) (cells1 slots1 : Nat) (s : CS) (t : MS) (out : Nat → Int64) (ls : Array Slot), ct_Wd g A sv ws H locs → LWd g ws s t out → Iv s t → lv_has ls 8 [(4, .int i), (0, .ref b), (1, .ref (g.2.1 0)), (2, .ref (g.2.1 35)), (3, .ref (g.2.1 47))] → cells1 ≤ cells + 20 → slots1 ≤ slots + 120 → W p l e room_1 sv m args below meth c H locs cells1 slots1 Q (F0 m 1681 ls [])) : W p l e room_1 sv m args below meth c H locs cells slots Q (F0 m 1090 ls []) := by
  have hx := C0.1
  have hb := C0.2.1
  refine lv_aload_n hx hb dl_1090 rfl (lv_at hl 2 rfl) ?_
  refine lv_aload_n hx hb dl_1091 rfl (lv_at hl 1 rfl) ?_
  refine lv_iload hx hb dl_1092 (lv_at hl 0 rfl) ?_
  refine lv_iconst (v := 1) hx hb dl_1094 (by decide) ?_
  refine lv_iadd hx hb dl_1095 ?_
  refine va_sld hx hb hX hbl hbA hw.2.2 hi.2.1 dl_1096 ?_
  refine lv_aload_n hx hb dl_1097 rfl (lv_at hl 1 rfl) ?_
  refine lv_iload hx hb dl_1098 (lv_at hl 0 rfl) ?_
  refine lv_iconst (v := 2) hx hb dl_1100 (by decide) ?_
  refine lv_iadd hx hb dl_1101 ?_
  refine va_sld hx hb hX hbl hbA hw.2.2 hi.2.2.1 dl_1102 ?_
  refine lv_aload_n hx hb dl_1103 rfl (lv_at hl 1 rfl) ?_
  refine lv_iload hx hb dl_1104 (lv_at hl 0 rfl) ?_
  refine lv_iconst (v := 3) hx hb dl_1106 (by decide) ?_
  refine lv_iadd hx hb dl_1107 ?_
  refine va_sld hx hb hX hbl hbA hw.2.2 hi.2.2.2.1 dl_1108 ?_
  refine lw_bz (L := 1116) (M := 1117) hx hb dl_1109 (by decide) dl_1112 dl_1113 (by decide) dl_1116 rfl ?_
  refine lv_aload_n hx hb dl_1117 rfl (lv_at hl 4 rfl) ?_
  obtain ⟨o9, r9, t9, e1, e2, hk, hth, hI, hv⟩ := P s t hI (xs (i + 1).toNatClampNeg) (xs (i + 2).toNatClampNeg) (bz (xs (i + 3).toNatClampNeg)) (bz_01 _)
  refine ct_callW (hh := hh_La_reserve) C0 hw hl.1 wd_601 wd_602 wd_0 wd_603 (fun sz => w_La_reserve l g ws sz hW.cs hW.2.2 hl0 e1 hk) (nA := 5) (rm := rm_La_reserve) (by decide +kernel) rfl ⟨rfl, rfl⟩ (by decide) ⟨by show cells + 2 ≤ 601024; omega, by show slots + 12 ≤ 7293034; omega⟩ (As := [.ref (g.2.1 0), .int (xs (i + 1).toNatClampNeg), .int (xs (i + 2).toNatClampNeg), .int (bz (xs (i + 3).toNatClampNeg)), .ref (g.2.1 47)]) (rest := []) rfl (Nat.le_of_ble_eq_true rfl) dl_1118 (fun ws H locs hw hp => ?_)
  have hW := hW.wr hp
  clear hp
  refine lv_istore (lv' := [(5, .int (wr_code o9)), (4, .int i), (0, .ref b), (1, .ref (g.2.1 0)), (2, .ref (g.2.1 35)), (3, .ref (g.2.1 47))]) hx hb dl_1121 hl (by decide) rfl (fun ls hl => ?_)
  refine lv_aload_n hx hb dl_1123 rfl (lv_at hl 4 rfl) ?_
  refine lv_aload_n hx hb dl_1124 rfl (lv_at hl 2 rfl) ?_
  refine lv_iload hx hb dl_1125 (lv_at hl 1 rfl) ?_
  refine lv_iconst (v := 1) hx hb dl_1127 (by decide) ?_
  refine lv_iadd hx hb dl_1128 ?_
  refine va_sld hx hb hX hbl hbA hw.2.2 hi.2.1 dl_1129 ?_
  refine lv_aload_n hx hb dl_1130 rfl (lv_at hl 2 rfl) ?_
  refine lv_iload hx hb dl_1131 (lv_at hl 1 rfl) ?_
  refine lv_iconst (v := 2) hx hb dl_1133 (by decide) ?_
  refine lv_iadd hx hb dl_1134 ?_
  refine va_sld hx hb hX hbl hbA hw.2.2 hi.2.2.1 dl_1135 ?_
  refine lv_aload_n hx hb dl_1136 rfl (lv_at hl 2 rfl) ?_
  refine lv_iload hx hb dl_1137 (lv_at hl 1 rfl) ?_
  refine lv_iconst (v := 3) hx hb dl_1139 (by decide) ?_
  refine lv_iadd hx hb dl_1140 ?_
  refine va_sld hx hb hX hbl hbA hw.2.2 hi.2.2.2.1 dl_1141 ?_
  refine lw_bz (L := 1149) (M := 1150) hx hb dl_1142 (by decide) dl_1145 dl_1146 (by decide) dl_1149 rfl ?_
  refine ct_callVl C0 hw hl.1 (q0 := 35) (hW.2.1 35 (by decide) (by decide)) rfl (ct_giV wd_952 wd_953 wd_954 wd_7 wd_955) (fun sz => s_Mo_reserve l g ws sz hW.ms e2) (nA := 3) (rm := rm_Mo_reserve) (by decide +kernel) rfl ⟨rfl, rfl⟩ (by decide) ⟨by show cells + 2 + 0 ≤ 601024; omega, by show slots + 12 + 0 ≤ 7293034; omega⟩ (As := [.int (xs (i + 1).toNatClampNeg), .int (xs (i + 2).toNatClampNeg), .int (bz (xs (i + 3).toNatClampNeg))]) (rest := []) rfl (Nat.le_of_ble_eq_true rfl) dl_1150 (fun ws1 H locs hw hp => ?_)
  have hW := hW.mo hp
  clear hp
  generalize ws1 = ws at hw hW
  refine lv_lstore (lv' := [(6, .long r9), (5, .int (wr_code o9)), (4, .int i), (0, .ref b), (1, .ref (g.2.1 0)), (2, .ref (g.2.1 35)), (3, .ref (g.2.1 47))]) hx hb dl_1153 hl (by decide) rfl (fun ls hl => ?_)
  refine lv_aload_n hx hb dl_1155 rfl (lv_at hl 5 rfl) ?_
  refine ct_callVi C0 hw hl.1 (q0 := 35) (hW.2.1 35 (by decide) (by decide)) rfl (ct_giV wd_790 wd_791 wd_792 wd_7 wd_793) (fun sz => s_Mo_thrown l g ws sz hW.ms (show fn_Mo_thrown t9 = some (ms_I t9 0) from rfl)) (nA := 0) (rm := rm_Mo_thrown) (by decide +kernel) rfl ⟨rfl, rfl⟩ (by decide) ⟨by show cells + 2 + 0 ≤ 601024; omega, by show slots + 12 + 0 ≤ 7293034; omega⟩ (As := []) (rest := []) rfl (Nat.le_of_ble_eq_true rfl) dl_1156 (fun ws1 H locs hw hp => ?_)
  rw [hp] at hw
  clear hp
  refine lv_iload hx hb dl_1159 (lv_at hl 1 rfl) ?_
  refine lv_icmp_eq hx hb (tgt := 1166) dl_1161 (by decide) (fun _ => ?_) (fun hc9 => absurd hth hc9)
  refine lv_iload hx hb dl_1166 (lv_at hl 1 rfl) ?_
  have hE : W p l e room_1 sv m args below meth c H locs (cells + 2 + 0) (slots + 12 + 0) Q (F0 m 1182 ls []) := by
    refine lv_goto hx hb (tgt := 1681) dl_1182 (by decide) ?_
    exact kk ws H locs _ _ _ _ _ ls hw hW hI (lv_sub hl [2, 3, 4, 5, 6] rfl) (by omega) (by omega)
  refine lv_if_ne hx hb (tgt := 1182) dl_1168 (by decide) (fun _ => hE) (fun hz => ?_)
  refine lv_aload_n hx hb dl_1171 rfl (lv_at hl 6 rfl) ?_
  refine lv_iconst (v := 0) hx hb dl_1172 (by decide) ?_
  refine va_lald hx hb C0.2.2.2.2.2.1.1 hw.1 47 2 hW.2.2 rfl (ct_inR_vp (by decide)) dl_1173 ?_
  refine lv_lload hx hb dl_1174 (lv_at hl 0 rfl) ?_
  refine W.lcmp hx hb dl_1176 ?_
  refine lv_if_eq hx hb (tgt := 1182) dl_1177 (by decide) (fun _ => hE) (fun hz2 => absurd ((lg_cmp_eq _ _).mpr (wr_eqL hz hv)) hz2)
theorem dl_1185 : decode code 1185 = .ok (.aload_n 1, 1) := by decide +kernel
theorem dl_1186 : decode code 1186 = .ok (.aload_n 0, 1) := by decide +kernel
theorem dl_1187 : decode code 1187 = .ok (.iload 4, 2) := by decide +kernel
theorem dl_1189 : decode code 1189 = .ok (.iconst 1, 1) := by decide +kernel
theorem dl_1190 : decode code 1190 = .ok (.iadd, 1) := by decide +kernel
theorem dl_1191 : decode code 1191 = .ok (.iaload, 1) := by decide +kernel
theorem dl_1192 : decode code 1192 = .ok (.aload_n 0, 1) := by decide +kernel
theorem dl_1193 : decode code 1193 = .ok (.iload 4, 2) := by decide +kernel
theorem dl_1195 : decode code 1195 = .ok (.iconst 2, 1) := by decide +kernel
theorem dl_1196 : decode code 1196 = .ok (.iadd, 1) := by decide +kernel
theorem dl_1197 : decode code 1197 = .ok (.iaload, 1) := by decide +kernel
theorem dl_1198 : decode code 1198 = .ok (.aload_n 3, 1) := by decide +kernel
theorem dl_1199 : decode code 1199 = .ok (.invokestatic 149, 3) := by decide +kernel
theorem dl_1202 : decode code 1202 = .ok (.istore 5, 2) := by decide +kernel
theorem dl_1204 : decode code 1204 = .ok (.aload_n 2, 1) := by decide +kernel
theorem dl_1205 : decode code 1205 = .ok (.aload_n 0, 1) := by decide +kernel
theorem dl_1206 : decode code 1206 = .ok (.iload 4, 2) := by decide +kernel
theorem dl_1208 : decode code 1208 = .ok (.iconst 1, 1) := by decide +kernel
theorem dl_1209 : decode code 1209 = .ok (.iadd, 1) := by decide +kernel
theorem dl_1210 : decode code 1210 = .ok (.iaload, 1) := by decide +kernel
theorem dl_1211 : decode code 1211 = .ok (.aload_n 0, 1) := by decide +kernel
theorem dl_1212 : decode code 1212 = .ok (.iload 4, 2) := by decide +kernel
theorem dl_1214 : decode code 1214 = .ok (.iconst 2, 1) := by decide +kernel
theorem dl_1215 : decode code 1215 = .ok (.iadd, 1) := by decide +kernel
theorem dl_1216 : decode code 1216 = .ok (.iaload, 1) := by decide +kernel
theorem dl_1217 : decode code 1217 = .ok (.invokevirtual 151, 3) := by decide +kernel
theorem dl_1220 : decode code 1220 = .ok (.lstore 6, 2) := by decide +kernel
theorem dl_1222 : decode code 1222 = .ok (.aload_n 2, 1) := by decide +kernel
theorem dl_1223 : decode code 1223 = .ok (.invokevirtual 100, 3) := by decide +kernel
theorem dl_1226 : decode code 1226 = .ok (.iload 5, 2) := by decide +kernel
theorem dl_1228 : decode code 1228 = .ok (.if_icmp .eq 5, 3) := by decide +kernel
theorem dl_1231 : decode code 1231 = .ok (.iconst 0, 1) := by decide +kernel
theorem dl_1232 : decode code 1232 = .ok (.ireturn, 1) := by decide +kernel
theorem dl_1233 : decode code 1233 = .ok (.iload 5, 2) := by decide +kernel
theorem dl_1235 : decode code 1235 = .ok (.ifCond .ne 14, 3) := by decide +kernel
theorem dl_1238 : decode code 1238 = .ok (.aload_n 3, 1) := by decide +kernel
theorem dl_1239 : decode code 1239 = .ok (.iconst 0, 1) := by decide +kernel
theorem dl_1240 : decode code 1240 = .ok (.laload, 1) := by decide +kernel
theorem dl_1241 : decode code 1241 = .ok (.lload 6, 2) := by decide +kernel
theorem dl_1243 : decode code 1243 = .ok (.lcmp, 1) := by decide +kernel
theorem dl_1244 : decode code 1244 = .ok (.ifCond .eq 5, 3) := by decide +kernel
theorem dl_1247 : decode code 1247 = .ok (.iconst 0, 1) := by decide +kernel
theorem dl_1248 : decode code 1248 = .ok (.ireturn, 1) := by decide +kernel
theorem dl_1249 : decode code 1249 = .ok (.goto 432, 3) := by decide +kernel
set_option maxHeartbeats 4000000 in
set_option maxRecDepth 100000 in
theorem lc_14 {Iv : CS → MS → Prop} (P : PP_rounded Iv) {p : Program} {l : Launch} {e : Env} {sv : State} {m : MethodId} {args : Array Value} {below : List Frame} {meth : Method} {c : Code} {Q : State → Prop} {b L : Nat} {xs : Nat → Int32} {g : Gx} {A : Nat → Prop} (hl0 : l.stackTraces = false) (C0 : ct_Cx R_La code 8 p sv m args meth c g A) (hX : va_X b L xs sv sv.heap) (hbl : b < sv.heap.size) (hbA : ¬ A b) {i : Int32} (hi : vp_in i L ∧ vp_in (i + 1) L ∧ vp_in (i + 2) L ∧ vp_in (i + 3) L ∧ vp_in (i + 4) L) {ws : va_W} {H : Heap} {locs : List Loc} {cells slots : Nat} {s : CS} {t : MS} {out : Nat → Int64} {ls : Array Slot} (hw : ct_Wd g A sv ws H locs) (hW : LWd g ws s t out) (hI : Iv s t) (hl : lv_has ls 8 [(4, .int i), (0, .ref b), (1, .ref (g.2.1 0)), (2, .ref (g.2.1 35)), (3, .ref (g.2.1 47))]) (hc : cells + 20 ≤ 601024) (hs : slots + 120 ≤ 7293034)
    (kk : ∀ (ws : va_W) (H : Heap) (locs : List Loc) (cells1 slots1 : Nat) (s : CS) (t : MS) (out : Nat → Int64) (ls : Array Slot), ct_Wd g A sv ws H locs → LWd g ws s t out → Iv s t → lv_has ls 8 [(4, .int i), (0, .ref b), (1, .ref (g.2.1 0)), (2, .ref (g.2.1 35)), (3, .ref (g.2.1 47))] → cells1 ≤ cells + 20 → slots1 ≤ slots + 120 → W p l e room_1 sv m args below meth c H locs cells1 slots1 Q (F0 m 1681 ls [])) : W p l e room_1 sv m args below meth c H locs cells slots Q (F0 m 1185 ls []) := by
  have hx := C0.1
  have hb := C0.2.1
  refine lv_aload_n hx hb dl_1185 rfl (lv_at hl 2 rfl) ?_
  refine lv_aload_n hx hb dl_1186 rfl (lv_at hl 1 rfl) ?_
  refine lv_iload hx hb dl_1187 (lv_at hl 0 rfl) ?_
  refine lv_iconst (v := 1) hx hb dl_1189 (by decide) ?_
  refine lv_iadd hx hb dl_1190 ?_
  refine va_sld hx hb hX hbl hbA hw.2.2 hi.2.1 dl_1191 ?_
  refine lv_aload_n hx hb dl_1192 rfl (lv_at hl 1 rfl) ?_
  refine lv_iload hx hb dl_1193 (lv_at hl 0 rfl) ?_
  refine lv_iconst (v := 2) hx hb dl_1195 (by decide) ?_
  refine lv_iadd hx hb dl_1196 ?_
  refine va_sld hx hb hX hbl hbA hw.2.2 hi.2.2.1 dl_1197 ?_
  refine lv_aload_n hx hb dl_1198 rfl (lv_at hl 4 rfl) ?_
  obtain ⟨o9, r9, t9, e1, e2, hk, hth, hI, hv⟩ := P s t hI (xs (i + 1).toNatClampNeg) (xs (i + 2).toNatClampNeg)
  refine ct_callW (hh := hh_La_rounded) C0 hw hl.1 wd_613 wd_614 wd_0 wd_615 (fun sz => w_La_rounded l g ws sz hW.cs hW.2.2 hl0 e1 hk) (nA := 4) (rm := rm_La_rounded) (by decide +kernel) rfl ⟨rfl, rfl⟩ (by decide) ⟨by show cells + 2 ≤ 601024; omega, by show slots + 12 ≤ 7293034; omega⟩ (As := [.ref (g.2.1 0), .int (xs (i + 1).toNatClampNeg), .int (xs (i + 2).toNatClampNeg), .ref (g.2.1 47)]) (rest := []) rfl (Nat.le_of_ble_eq_true rfl) dl_1199 (fun ws H locs hw hp => ?_)
  have hW := hW.wr hp
  clear hp
  refine lv_istore (lv' := [(5, .int (wr_code o9)), (4, .int i), (0, .ref b), (1, .ref (g.2.1 0)), (2, .ref (g.2.1 35)), (3, .ref (g.2.1 47))]) hx hb dl_1202 hl (by decide) rfl (fun ls hl => ?_)
  refine lv_aload_n hx hb dl_1204 rfl (lv_at hl 4 rfl) ?_
  refine lv_aload_n hx hb dl_1205 rfl (lv_at hl 2 rfl) ?_
  refine lv_iload hx hb dl_1206 (lv_at hl 1 rfl) ?_
  refine lv_iconst (v := 1) hx hb dl_1208 (by decide) ?_
  refine lv_iadd hx hb dl_1209 ?_
  refine va_sld hx hb hX hbl hbA hw.2.2 hi.2.1 dl_1210 ?_
  refine lv_aload_n hx hb dl_1211 rfl (lv_at hl 2 rfl) ?_
  refine lv_iload hx hb dl_1212 (lv_at hl 1 rfl) ?_
  refine lv_iconst (v := 2) hx hb dl_1214 (by decide) ?_
  refine lv_iadd hx hb dl_1215 ?_
  refine va_sld hx hb hX hbl hbA hw.2.2 hi.2.2.1 dl_1216 ?_
  refine ct_callVl C0 hw hl.1 (q0 := 35) (hW.2.1 35 (by decide) (by decide)) rfl (ct_giV wd_960 wd_961 wd_962 wd_7 wd_963) (fun sz => s_Mo_rounded l g ws sz hW.ms e2) (nA := 2) (rm := rm_Mo_rounded) (by decide +kernel) rfl ⟨rfl, rfl⟩ (by decide) ⟨by show cells + 2 + 0 ≤ 601024; omega, by show slots + 12 + 0 ≤ 7293034; omega⟩ (As := [.int (xs (i + 1).toNatClampNeg), .int (xs (i + 2).toNatClampNeg)]) (rest := []) rfl (Nat.le_of_ble_eq_true rfl) dl_1217 (fun ws1 H locs hw hp => ?_)
  have hW := hW.mo hp
  clear hp
  generalize ws1 = ws at hw hW
  refine lv_lstore (lv' := [(6, .long r9), (5, .int (wr_code o9)), (4, .int i), (0, .ref b), (1, .ref (g.2.1 0)), (2, .ref (g.2.1 35)), (3, .ref (g.2.1 47))]) hx hb dl_1220 hl (by decide) rfl (fun ls hl => ?_)
  refine lv_aload_n hx hb dl_1222 rfl (lv_at hl 5 rfl) ?_
  refine ct_callVi C0 hw hl.1 (q0 := 35) (hW.2.1 35 (by decide) (by decide)) rfl (ct_giV wd_790 wd_791 wd_792 wd_7 wd_793) (fun sz => s_Mo_thrown l g ws sz hW.ms (show fn_Mo_thrown t9 = some (ms_I t9 0) from rfl)) (nA := 0) (rm := rm_Mo_thrown) (by decide +kernel) rfl ⟨rfl, rfl⟩ (by decide) ⟨by show cells + 2 + 0 ≤ 601024; omega, by show slots + 12 + 0 ≤ 7293034; omega⟩ (As := []) (rest := []) rfl (Nat.le_of_ble_eq_true rfl) dl_1223 (fun ws1 H locs hw hp => ?_)
  rw [hp] at hw
  clear hp
  refine lv_iload hx hb dl_1226 (lv_at hl 1 rfl) ?_
  refine lv_icmp_eq hx hb (tgt := 1233) dl_1228 (by decide) (fun _ => ?_) (fun hc9 => absurd hth hc9)
  refine lv_iload hx hb dl_1233 (lv_at hl 1 rfl) ?_
  have hE : W p l e room_1 sv m args below meth c H locs (cells + 2 + 0) (slots + 12 + 0) Q (F0 m 1249 ls []) := by
    refine lv_goto hx hb (tgt := 1681) dl_1249 (by decide) ?_
    exact kk ws H locs _ _ _ _ _ ls hw hW hI (lv_sub hl [2, 3, 4, 5, 6] rfl) (by omega) (by omega)
  refine lv_if_ne hx hb (tgt := 1249) dl_1235 (by decide) (fun _ => hE) (fun hz => ?_)
  refine lv_aload_n hx hb dl_1238 rfl (lv_at hl 6 rfl) ?_
  refine lv_iconst (v := 0) hx hb dl_1239 (by decide) ?_
  refine va_lald hx hb C0.2.2.2.2.2.1.1 hw.1 47 2 hW.2.2 rfl (ct_inR_vp (by decide)) dl_1240 ?_
  refine lv_lload hx hb dl_1241 (lv_at hl 0 rfl) ?_
  refine W.lcmp hx hb dl_1243 ?_
  refine lv_if_eq hx hb (tgt := 1249) dl_1244 (by decide) (fun _ => hE) (fun hz2 => absurd ((lg_cmp_eq _ _).mpr (wr_eqL hz hv)) hz2)
