theorem wd_16 : (Cond.classLink "ClaimTriangleLaw" (8 : Nat) "ClaimTriangle") ∈ Wds := List.mem_filter.mpr ⟨List.mem_append_right _ (List.mem_of_getElem? (i := 16) (by decide +kernel)), by decide +kernel⟩
theorem wd_17 : (Cond.instantiable "ClaimTriangle" (4 : Nat)) ∈ Wds := List.mem_filter.mpr ⟨List.mem_append_right _ (List.mem_of_getElem? (i := 17) (by decide +kernel)), by decide +kernel⟩
theorem wd_18 : (Cond.methodLink "ClaimTriangleLaw" (90 : Nat) ({ cls := "ClaimTriangle", name := "<init>", desc := "()V" } : MethodName)) ∈ Wds := List.mem_filter.mpr ⟨List.mem_append_right _ (List.mem_of_getElem? (i := 18) (by decide +kernel)), by decide +kernel⟩
theorem wd_19 : (Cond.instanceMethod ({ cls := "ClaimTriangle", name := "<init>", desc := "()V" } : MethodName)) ∈ Wds := List.mem_filter.mpr ⟨List.mem_append_right _ (List.mem_of_getElem? (i := 19) (by decide +kernel)), by decide +kernel⟩
theorem wd_20 : (Cond.code ({ cls := "ClaimTriangle", name := "<init>", desc := "()V" } : MethodName) prog_1_method_1_code (1 : Nat) (Option.none : Option FieldType)) ∈ Wds := List.mem_filter.mpr ⟨List.mem_append_right _ (List.mem_of_getElem? (i := 20) (by decide +kernel)), by decide +kernel⟩
theorem wd_704 : (Cond.classLink "ClaimTriangleLaw" (91 : Nat) "ClaimTriangleModel") ∈ Wds := List.mem_filter.mpr ⟨List.mem_append_right _ (List.mem_of_getElem? (i := 704) (by decide +kernel)), by decide +kernel⟩
theorem wd_705 : (Cond.instantiable "ClaimTriangleModel" (26 : Nat)) ∈ Wds := List.mem_filter.mpr ⟨List.mem_append_right _ (List.mem_of_getElem? (i := 705) (by decide +kernel)), by decide +kernel⟩
theorem wd_706 : (Cond.methodLink "ClaimTriangleLaw" (93 : Nat) ({ cls := "ClaimTriangleModel", name := "<init>", desc := "()V" } : MethodName)) ∈ Wds := List.mem_filter.mpr ⟨List.mem_append_right _ (List.mem_of_getElem? (i := 706) (by decide +kernel)), by decide +kernel⟩
theorem wd_707 : (Cond.instanceMethod ({ cls := "ClaimTriangleModel", name := "<init>", desc := "()V" } : MethodName)) ∈ Wds := List.mem_filter.mpr ⟨List.mem_append_right _ (List.mem_of_getElem? (i := 707) (by decide +kernel)), by decide +kernel⟩
theorem wd_708 : (Cond.code ({ cls := "ClaimTriangleModel", name := "<init>", desc := "()V" } : MethodName) prog_8_method_1_code (2 : Nat) (Option.none : Option FieldType)) ∈ Wds := List.mem_filter.mpr ⟨List.mem_append_right _ (List.mem_of_getElem? (i := 708) (by decide +kernel)), by decide +kernel⟩
theorem law_nx {n k : Nat} : Int32.ofNat n + Int32.ofNat k = Int32.ofNat (n + k) := (Int32.ofNat_add n k).symm
theorem law_in {n k L : Nat} (hL : L ≤ 2560) (h : n + k < L) : vp_in (Int32.ofNat n + Int32.ofNat k) L := by
  rw [law_nx]
  exact ct_inR_vp (pi_inR h (by omega))
theorem law_cmp {n L : Nat} (hL : L ≤ 2560) (hn : n ≤ 3000) : Int32.ofNat L - 5 < Int32.ofNat n ↔ L < n + 5 := by
  have e5 : (5 : Int32).toInt = 5 := rfl
  rw [Int32.lt_iff_toInt_lt, Int32.toInt_sub, pi_of (by omega), e5, pa_bm32 (by omega) (by omega), pi_of (by omega)]
  omega
set_option maxHeartbeats 4000000 in
set_option maxRecDepth 100000 in
theorem law_loop {Iv : CS → MS → Prop} (P0 : PP_pay Iv) (P1 : PP_estimate Iv) (P2 : PP_strike Iv) (P3 : PP_move Iv) (P4 : PP_premium Iv) (P5 : PP_ratio Iv) (P6 : PP_build Iv) (P7 : PP_cell Iv) (P8 : PP_leave Iv) (P9 : PP_latest Iv) (P10 : PP_hide Iv) (P11 : PP_factor Iv) (P12 : PP_ultimate Iv) (P13 : PP_reserve Iv) (P14 : PP_rounded Iv) (P15 : PP_total Iv) (P16 : PP_marks Iv) (P17 : PP_deviation Iv) (P18 : PP_error Iv) (P19 : PP_diagonal Iv) (P20 : PP_count Iv) {p : Program} {l : Launch} {e : Env} {sv : State} {m : MethodId} {args : Array Value} {below : List Frame} {meth : Method} {c : Code} {Q : State → Prop} {b L : Nat} {xs : Nat → Int32} {g : Gx} {A : Nat → Prop} (hl0 : l.stackTraces = false) (C0 : ct_Cx R_La code 8 p sv m args meth c g A) (hX : va_X b L xs sv sv.heap) (hbl : b < sv.heap.size) (hbA : ¬ A b) (hL : L ≤ 2560)
    (hend : ∀ (ws : va_W) (H : Heap) (locs : List Loc) (cells slots : Nat) (ls : Array Slot), ct_Wd g A sv ws H locs → cells ≤ 601024 → slots ≤ 7293034 → W p l e room_1 sv m args below meth c H locs cells slots Q (F0 m 1687 ls [])) :
    ∀ (r n : Nat) (ws : va_W) (H : Heap) (locs : List Loc) (cells slots : Nat) (s : CS) (t : MS) (out : Nat → Int64) (ls : Array Slot), L < n + 5 * r + 5 → n ≤ 2560 → ct_Wd g A sv ws H locs → LWd g ws s t out → Iv s t → lv_has ls 8 [(4, .int (Int32.ofNat n)), (0, .ref b), (1, .ref (g.2.1 0)), (2, .ref (g.2.1 35)), (3, .ref (g.2.1 47))] → cells + 20 * r ≤ 601024 → slots + 120 * r ≤ 7293034 → W p l e room_1 sv m args below meth c H locs cells slots Q (F0 m 23 ls []) := by
  have hx := C0.1
  have hb := C0.2.1
  intro r
  induction r with
  | zero =>
    intro n ws H locs cells slots s t out ls hr hn hw hW hI hl hc hs
    refine lv_iload hx hb dl_23 (lv_at hl 0 rfl) ?_
    refine lv_aload_n hx hb dl_25 rfl (lv_at hl 1 rfl) ?_
    refine va_slen hx hb hX hbl hbA hw.2.2 dl_26 ?_
    refine lv_iconst (v := 5) hx hb dl_27 (by decide) ?_
    refine lv_isub hx hb dl_28 ?_
    refine lv_icmp_gt hx hb (tgt := 1687) dl_29 (by decide) (fun hc9 => hend ws H locs cells slots ls hw (by omega) (by omega)) (fun hc9 => absurd ((law_cmp hL (by omega)).mpr (by omega)) hc9)
  | succ r ih =>
    intro n ws H locs cells slots s t out ls hr hn hw hW hI hl hc hs
    refine lv_iload hx hb dl_23 (lv_at hl 0 rfl) ?_
    refine lv_aload_n hx hb dl_25 rfl (lv_at hl 1 rfl) ?_
    refine va_slen hx hb hX hbl hbA hw.2.2 dl_26 ?_
    refine lv_iconst (v := 5) hx hb dl_27 (by decide) ?_
    refine lv_isub hx hb dl_28 ?_
    refine lv_icmp_gt hx hb (tgt := 1687) dl_29 (by decide) (fun hc9 => hend ws H locs cells slots ls hw (by omega) (by omega)) (fun hc9 => ?_)
    have hn5 : n + 5 ≤ L := Nat.not_lt.mp fun q => hc9 ((law_cmp hL (by omega)).mpr q)
    have hi0 : vp_in (Int32.ofNat n) L := ct_inR_vp (pi_inR (by omega) (by omega))
    have hi : vp_in (Int32.ofNat n) L ∧ vp_in (Int32.ofNat n + 1) L ∧ vp_in (Int32.ofNat n + 2) L ∧ vp_in (Int32.ofNat n + 3) L ∧ vp_in (Int32.ofNat n + 4) L := ⟨hi0, law_in (k := 1) hL (by omega), law_in (k := 2) hL (by omega), law_in (k := 3) hL (by omega), law_in (k := 4) hL (by omega)⟩
    have back : ∀ (ws : va_W) (H : Heap) (locs : List Loc) (cells1 slots1 : Nat) (s : CS) (t : MS) (out : Nat → Int64) (ls : Array Slot), ct_Wd g A sv ws H locs → LWd g ws s t out → Iv s t → lv_has ls 8 [(4, .int (Int32.ofNat n)), (0, .ref b), (1, .ref (g.2.1 0)), (2, .ref (g.2.1 35)), (3, .ref (g.2.1 47))] → cells1 ≤ cells + 20 → slots1 ≤ slots + 120 → W p l e room_1 sv m args below meth c H locs cells1 slots1 Q (F0 m 1681 ls []) := by
      intro ws H locs cells1 slots1 s t out ls hw hW hI hl h1 h2
      refine lv_iinc (v := Int32.ofNat n + 5) (k := 0) (lv' := [(4, .int (Int32.ofNat n + 5)), (0, .ref b), (1, .ref (g.2.1 0)), (2, .ref (g.2.1 35)), (3, .ref (g.2.1 47))]) hx hb dl_1681 hl rfl rfl (by decide) rfl (fun ls hl => ?_)
      refine lv_goto hx hb (tgt := 23) dl_1684 (by decide) ?_
      have e5 : Int32.ofNat n + 5 = Int32.ofNat (n + 5) := law_nx (k := 5)
      rw [e5] at hl
      exact ih (n + 5) ws H locs cells1 slots1 s t out ls (by omega) (by omega) hw hW hI hl (by omega) (by omega)
    refine lv_aload_n hx hb dl_32 rfl (lv_at hl 1 rfl) ?_
    refine lv_iload hx hb dl_33 (lv_at hl 0 rfl) ?_
    refine va_sld hx hb hX hbl hbA hw.2.2 hi0 dl_35 ?_
    refine lv_bipush (v := 31) hx hb dl_36 (by decide) ?_
    refine lv_iand hx hb dl_38 ?_
    refine lv_topi (fun z9 e9 => ?_)
    clear e9
    by_cases hk0 : z9 = 0
    · refine lv_tableIn hx hb (tgt := 136) dl_39 (by rw [hk0]; decide) (by rw [hk0]; decide) (by rw [hk0]; rfl) (by decide) ?_
      exact lc_0 P0 hl0 C0 hX hbl hbA hi hw hW hI hl (by omega) (by omega) back
    by_cases hk1 : z9 = 1
    · refine lv_tableIn hx hb (tgt := 228) dl_39 (by rw [hk1]; decide) (by rw [hk1]; decide) (by rw [hk1]; rfl) (by decide) ?_
      exact lc_1 P1 hl0 C0 hX hbl hbA hi hw hW hI hl (by omega) (by omega) back
    by_cases hk2 : z9 = 2
    · refine lv_tableIn hx hb (tgt := 320) dl_39 (by rw [hk2]; decide) (by rw [hk2]; decide) (by rw [hk2]; rfl) (by decide) ?_
      exact lc_2 P2 hl0 C0 hX hbl hbA hi hw hW hI hl (by omega) (by omega) back
    by_cases hk3 : z9 = 3
    · refine lv_tableIn hx hb (tgt := 376) dl_39 (by rw [hk3]; decide) (by rw [hk3]; decide) (by rw [hk3]; rfl) (by decide) ?_
      exact lc_3 P3 hl0 C0 hX hbl hbA hi hw hW hI hl (by omega) (by omega) back
    by_cases hk4 : z9 = 4
    · refine lv_tableIn hx hb (tgt := 436) dl_39 (by rw [hk4]; decide) (by rw [hk4]; decide) (by rw [hk4]; rfl) (by decide) ?_
      exact lc_4 P4 hl0 C0 hX hbl hbA hi hw hW hI hl (by omega) (by omega) back
    by_cases hk5 : z9 = 5
    · refine lv_tableIn hx hb (tgt := 496) dl_39 (by rw [hk5]; decide) (by rw [hk5]; decide) (by rw [hk5]; rfl) (by decide) ?_
      exact lc_5 P5 hl0 C0 hX hbl hbA hi hw hW hI hl (by omega) (by omega) back
    by_cases hk6 : z9 = 6
    · refine lv_tableIn hx hb (tgt := 556) dl_39 (by rw [hk6]; decide) (by rw [hk6]; decide) (by rw [hk6]; rfl) (by decide) ?_
      exact lc_6 P6 hl0 C0 hX hbl hbA hi hw hW hI hl (by omega) (by omega) back
    by_cases hk7 : z9 = 7
    · refine lv_tableIn hx hb (tgt := 644) dl_39 (by rw [hk7]; decide) (by rw [hk7]; decide) (by rw [hk7]; rfl) (by decide) ?_
      exact lc_7 P7 hl0 C0 hX hbl hbA hi hw hW hI hl (by omega) (by omega) back
    by_cases hk8 : z9 = 8
    · refine lv_tableIn hx hb (tgt := 712) dl_39 (by rw [hk8]; decide) (by rw [hk8]; decide) (by rw [hk8]; rfl) (by decide) ?_
      exact lc_8 P8 hl0 C0 hX hbl hbA hi hw hW hI hl (by omega) (by omega) back
    by_cases hk9 : z9 = 9
    · refine lv_tableIn hx hb (tgt := 808) dl_39 (by rw [hk9]; decide) (by rw [hk9]; decide) (by rw [hk9]; rfl) (by decide) ?_
      exact lc_9 P9 hl0 C0 hX hbl hbA hi hw hW hI hl (by omega) (by omega) back
    by_cases hk10 : z9 = 10
    · refine lv_tableIn hx hb (tgt := 844) dl_39 (by rw [hk10]; decide) (by rw [hk10]; decide) (by rw [hk10]; rfl) (by decide) ?_
      exact lc_10 P10 hl0 C0 hX hbl hbA hi hw hW hI hl (by omega) (by omega) back
    by_cases hk11 : z9 = 11
    · refine lv_tableIn hx hb (tgt := 900) dl_39 (by rw [hk11]; decide) (by rw [hk11]; decide) (by rw [hk11]; rfl) (by decide) ?_
      exact lc_11 P11 hl0 C0 hX hbl hbA hi hw hW hI hl (by omega) (by omega) back
    by_cases hk12 : z9 = 12
    · refine lv_tableIn hx hb (tgt := 995) dl_39 (by rw [hk12]; decide) (by rw [hk12]; decide) (by rw [hk12]; rfl) (by decide) ?_
      exact lc_12 P12 hl0 C0 hX hbl hbA hi hw hW hI hl (by omega) (by omega) back
    by_cases hk13 : z9 = 13
    · refine lv_tableIn hx hb (tgt := 1090) dl_39 (by rw [hk13]; decide) (by rw [hk13]; decide) (by rw [hk13]; rfl) (by decide) ?_
      exact lc_13 P13 hl0 C0 hX hbl hbA hi hw hW hI hl (by omega) (by omega) back
    by_cases hk14 : z9 = 14
    · refine lv_tableIn hx hb (tgt := 1185) dl_39 (by rw [hk14]; decide) (by rw [hk14]; decide) (by rw [hk14]; rfl) (by decide) ?_
      exact lc_14 P14 hl0 C0 hX hbl hbA hi hw hW hI hl (by omega) (by omega) back
    by_cases hk15 : z9 = 15
    · refine lv_tableIn hx hb (tgt := 1252) dl_39 (by rw [hk15]; decide) (by rw [hk15]; decide) (by rw [hk15]; rfl) (by decide) ?_
      exact lc_15 P15 hl0 C0 hX hbl hbA hi hw hW hI hl (by omega) (by omega) back
    by_cases hk16 : z9 = 16
    · refine lv_tableIn hx hb (tgt := 1335) dl_39 (by rw [hk16]; decide) (by rw [hk16]; decide) (by rw [hk16]; rfl) (by decide) ?_
      exact lc_16 P16 hl0 C0 hX hbl hbA hi hw hW hI hl (by omega) (by omega) back
    by_cases hk17 : z9 = 17
    · refine lv_tableIn hx hb (tgt := 1391) dl_39 (by rw [hk17]; decide) (by rw [hk17]; decide) (by rw [hk17]; rfl) (by decide) ?_
      exact lc_17 P17 hl0 C0 hX hbl hbA hi hw hW hI hl (by omega) (by omega) back
    by_cases hk18 : z9 = 18
    · refine lv_tableIn hx hb (tgt := 1474) dl_39 (by rw [hk18]; decide) (by rw [hk18]; decide) (by rw [hk18]; rfl) (by decide) ?_
      exact lc_18 P18 hl0 C0 hX hbl hbA hi hw hW hI hl (by omega) (by omega) back
    by_cases hk19 : z9 = 19
    · refine lv_tableIn hx hb (tgt := 1569) dl_39 (by rw [hk19]; decide) (by rw [hk19]; decide) (by rw [hk19]; rfl) (by decide) ?_
      exact lc_19 P19 hl0 C0 hX hbl hbA hi hw hW hI hl (by omega) (by omega) back
    by_cases hk20 : z9 = 20
    · refine lv_tableIn hx hb (tgt := 1625) dl_39 (by rw [hk20]; decide) (by rw [hk20]; decide) (by rw [hk20]; rfl) (by decide) ?_
      exact lc_20 P20 hl0 C0 hX hbl hbA hi hw hW hI hl (by omega) (by omega) back
    refine lv_tableOut hx hb (tgt := 1681) dl_39 (by have e0 := lv_neT (a := 0) hk0 rfl; have e1 := lv_neT (a := 1) hk1 rfl; have e2 := lv_neT (a := 2) hk2 rfl; have e3 := lv_neT (a := 3) hk3 rfl; have e4 := lv_neT (a := 4) hk4 rfl; have e5 := lv_neT (a := 5) hk5 rfl; have e6 := lv_neT (a := 6) hk6 rfl; have e7 := lv_neT (a := 7) hk7 rfl; have e8 := lv_neT (a := 8) hk8 rfl; have e9 := lv_neT (a := 9) hk9 rfl; have e10 := lv_neT (a := 10) hk10 rfl; have e11 := lv_neT (a := 11) hk11 rfl; have e12 := lv_neT (a := 12) hk12 rfl; have e13 := lv_neT (a := 13) hk13 rfl; have e14 := lv_neT (a := 14) hk14 rfl; have e15 := lv_neT (a := 15) hk15 rfl; have e16 := lv_neT (a := 16) hk16 rfl; have e17 := lv_neT (a := 17) hk17 rfl; have e18 := lv_neT (a := 18) hk18 rfl; have e19 := lv_neT (a := 19) hk19 rfl; have e20 := lv_neT (a := 20) hk20 rfl; omega) (by decide) ?_
    exact back ws H locs cells slots s t out ls hw hW hI hl (by omega) (by omega)
