theorem bz_01 (x : Int32) : bz x = 0 ∨ bz x = 1 := by
  unfold bz
  split
  · exact Or.inl rfl
  · exact Or.inr rfl
def PP_pay (Iv : CS → MS → Prop) : Prop := ∀ s t, Iv s t → ∀ a1 a2 a3 a4 : Int32, ∃ o r t9, fn_CT_pay s a1 a2 a3 a4 = some o ∧ fn_Mo_pay t a1 a2 a3 a4 = some (r, t9) ∧ AgI Iv (fun k => k = 1 ∨ k = 2) o r t9
def PP_estimate (Iv : CS → MS → Prop) : Prop := ∀ s t, Iv s t → ∀ a1 a2 a3 a4 : Int32, ∃ o r t9, fn_CT_estimate s a1 a2 a3 a4 = some o ∧ fn_Mo_estimate t a1 a2 a3 a4 = some (r, t9) ∧ AgI Iv (fun k => k = 1 ∨ k = 2) o r t9
def PP_strike (Iv : CS → MS → Prop) : Prop := ∀ s t, Iv s t → ∀ a1 : Int32, ∃ o r t9, fn_CT_strike s a1 = some o ∧ fn_Mo_strike t a1 = some (r, t9) ∧ AgI Iv (fun k => k = 1 ∨ k = 2) o r t9
def PP_move (Iv : CS → MS → Prop) : Prop := ∀ s t, Iv s t → ∀ a1 a2 a3 : Int32, ∃ o t9, fn_CT_move s a1 a2 a3 = some o ∧ fn_Mo_move t a1 a2 a3 = some t9 ∧ AgV Iv (fun k => k = 1 ∨ k = 2) o t9
def PP_premium (Iv : CS → MS → Prop) : Prop := ∀ s t, Iv s t → ∀ a1 a2 a3 : Int32, ∃ o t9, fn_CT_premium s a1 a2 a3 = some o ∧ fn_Mo_premium t a1 a2 a3 = some t9 ∧ AgV Iv (fun k => k = 1) o t9
def PP_ratio (Iv : CS → MS → Prop) : Prop := ∀ s t, Iv s t → ∀ a1 a2 a3 : Int32, ∃ o t9, fn_CT_ratio s a1 a2 a3 = some o ∧ fn_Mo_ratio t a1 a2 a3 = some t9 ∧ AgV Iv (fun k => k = 1) o t9
def PP_build (Iv : CS → MS → Prop) : Prop := ∀ s t, Iv s t → ∀ a1 a2 a3 a4 : Int32, (a3 = 0 ∨ a3 = 1) → ∃ o t9, fn_CT_build s a1 a2 a3 a4 = some o ∧ fn_Mo_build t a1 a2 a3 a4 = some t9 ∧ AgV Iv (fun k => k = 1) o t9
def PP_cell (Iv : CS → MS → Prop) : Prop := ∀ s t, Iv s t → ∀ a1 a2 : Int32, ∃ o r t9, fn_CT_cell s a1 a2 = some o ∧ fn_Mo_cell t a1 a2 = some (r, t9) ∧ AgI Iv (fun k => k = 1) o r t9
def PP_leave (Iv : CS → MS → Prop) : Prop := ∀ s t, Iv s t → ∀ a1 a2 a3 : Int32, (a3 = 0 ∨ a3 = 1) → ∃ o r t9, fn_CT_leave s a1 a2 a3 = some o ∧ fn_Mo_leave t a1 a2 a3 = some (r, t9) ∧ AgI Iv (fun k => k = 1) o r t9
def PP_latest (Iv : CS → MS → Prop) : Prop := ∀ s t, Iv s t → ∀ a1 : Int32, ∃ o t9, fn_CT_latest s a1 = some o ∧ fn_Mo_latest t a1 = some t9 ∧ AgV Iv (fun k => k = 1) o t9
def PP_hide (Iv : CS → MS → Prop) : Prop := ∀ s t, Iv s t → ∀ a1 : Int32, ∃ o r t9, fn_CT_hide s a1 = some o ∧ fn_Mo_hide t a1 = some (r, t9) ∧ AgI Iv (fun k => k = 1) o r t9
def PP_factor (Iv : CS → MS → Prop) : Prop := ∀ s t, Iv s t → ∀ a1 a2 a3 : Int32, (a3 = 0 ∨ a3 = 1) → ∃ o r t9, fn_CT_factor s a1 a2 a3 = some o ∧ fn_Mo_factor t a1 a2 a3 = some (r, t9) ∧ AgL Iv (fun k => k = 1 ∨ k = 3 ∨ k = 4) o r t9
def PP_ultimate (Iv : CS → MS → Prop) : Prop := ∀ s t, Iv s t → ∀ a1 a2 a3 : Int32, (a3 = 0 ∨ a3 = 1) → ∃ o r t9, fn_CT_ultimate s a1 a2 a3 = some o ∧ fn_Mo_ultimate t a1 a2 a3 = some (r, t9) ∧ AgL Iv (fun k => k = 1 ∨ k = 3 ∨ k = 4) o r t9
def PP_reserve (Iv : CS → MS → Prop) : Prop := ∀ s t, Iv s t → ∀ a1 a2 a3 : Int32, (a3 = 0 ∨ a3 = 1) → ∃ o r t9, fn_CT_reserve s a1 a2 a3 = some o ∧ fn_Mo_reserve t a1 a2 a3 = some (r, t9) ∧ AgL Iv (fun k => k = 1 ∨ k = 3 ∨ k = 4) o r t9
def PP_rounded (Iv : CS → MS → Prop) : Prop := ∀ s t, Iv s t → ∀ a1 a2 : Int32, ∃ o r t9, fn_CT_rounded s a1 a2 = some o ∧ fn_Mo_rounded t a1 a2 = some (r, t9) ∧ AgL Iv (fun k => k = 1 ∨ k = 3 ∨ k = 4) o r t9
def PP_total (Iv : CS → MS → Prop) : Prop := ∀ s t, Iv s t → ∀ a1 a2 : Int32, (a2 = 0 ∨ a2 = 1) → ∃ o r t9, fn_CT_total s a1 a2 = some o ∧ fn_Mo_total t a1 a2 = some (r, t9) ∧ AgL Iv (fun k => k = 1 ∨ k = 3 ∨ k = 4) o r t9
def PP_marks (Iv : CS → MS → Prop) : Prop := ∀ s t, Iv s t → ∀ a1 : Int32, ∃ o r t9, fn_CT_marks s a1 = some o ∧ fn_Mo_marks t a1 = some (r, t9) ∧ AgI Iv (fun k => k = 1) o r t9
def PP_deviation (Iv : CS → MS → Prop) : Prop := ∀ s t, Iv s t → ∀ a1 a2 : Int32, (a2 = 0 ∨ a2 = 1) → ∃ o r t9, fn_CT_deviation s a1 a2 = some o ∧ fn_Mo_deviation t a1 a2 = some (r, t9) ∧ AgL Iv (fun k => k = 1 ∨ k = 3 ∨ k = 4) o r t9
def PP_error (Iv : CS → MS → Prop) : Prop := ∀ s t, Iv s t → ∀ a1 a2 a3 : Int32, (a3 = 0 ∨ a3 = 1) → ∃ o r t9, fn_CT_error s a1 a2 a3 = some o ∧ fn_Mo_error t a1 a2 a3 = some (r, t9) ∧ AgL Iv (fun k => k = 1 ∨ k = 3 ∨ k = 4) o r t9
def PP_diagonal (Iv : CS → MS → Prop) : Prop := ∀ s t, Iv s t → ∀ a1 : Int32, ∃ o r t9, fn_CT_diagonal s a1 = some o ∧ fn_Mo_diagonal t a1 = some (r, t9) ∧ AgI Iv (fun k => k = 1) o r t9
def PP_count (Iv : CS → MS → Prop) : Prop := ∀ s t, Iv s t → ∀ a1 : Int32, ∃ o r t9, fn_CT_count s a1 = some o ∧ fn_Mo_count t a1 = some (r, t9) ∧ AgI Iv (fun k => k = 1) o r t9
theorem dl_0 : decode code 0 = .ok (.new 8, 3) := by decide +kernel
theorem dl_3 : decode code 3 = .ok (.dup, 1) := by decide +kernel
theorem dl_4 : decode code 4 = .ok (.invokespecial 90, 3) := by decide +kernel
theorem dl_7 : decode code 7 = .ok (.astore_n 1, 1) := by decide +kernel
theorem dl_8 : decode code 8 = .ok (.new 91, 3) := by decide +kernel
theorem dl_11 : decode code 11 = .ok (.dup, 1) := by decide +kernel
theorem dl_12 : decode code 12 = .ok (.invokespecial 93, 3) := by decide +kernel
theorem dl_15 : decode code 15 = .ok (.astore_n 2, 1) := by decide +kernel
theorem dl_16 : decode code 16 = .ok (.iconst 1, 1) := by decide +kernel
theorem dl_17 : decode code 17 = .ok (.newarray .long, 2) := by decide +kernel
theorem dl_19 : decode code 19 = .ok (.astore_n 3, 1) := by decide +kernel
theorem dl_20 : decode code 20 = .ok (.iconst 0, 1) := by decide +kernel
theorem dl_21 : decode code 21 = .ok (.istore 4, 2) := by decide +kernel
theorem dl_23 : decode code 23 = .ok (.iload 4, 2) := by decide +kernel
theorem dl_25 : decode code 25 = .ok (.aload_n 0, 1) := by decide +kernel
theorem dl_26 : decode code 26 = .ok (.arraylength, 1) := by decide +kernel
theorem dl_27 : decode code 27 = .ok (.iconst 5, 1) := by decide +kernel
theorem dl_28 : decode code 28 = .ok (.isub, 1) := by decide +kernel
theorem dl_29 : decode code 29 = .ok (.if_icmp .gt 1658, 3) := by decide +kernel
theorem dl_32 : decode code 32 = .ok (.aload_n 0, 1) := by decide +kernel
theorem dl_33 : decode code 33 = .ok (.iload 4, 2) := by decide +kernel
theorem dl_35 : decode code 35 = .ok (.iaload, 1) := by decide +kernel
theorem dl_36 : decode code 36 = .ok (.bipush 31, 2) := by decide +kernel
theorem dl_38 : decode code 38 = .ok (.iand, 1) := by decide +kernel
theorem dl_39 : decode code 39 = .ok (.tableswitch 1642 0 20 #[97, 189, 281, 337, 397, 457, 517, 605, 673, 769, 805, 861, 956, 1051, 1146, 1213, 1296, 1352, 1435, 1530, 1586], 97) := by decide +kernel
theorem dl_1681 : decode code 1681 = .ok (.iinc 4 5, 3) := by decide +kernel
theorem dl_1684 : decode code 1684 = .ok (.goto (-1661), 3) := by decide +kernel
theorem dl_1687 : decode code 1687 = .ok (.iconst 1, 1) := by decide +kernel
theorem dl_1688 : decode code 1688 = .ok (.ireturn, 1) := by decide +kernel
theorem dl_136 : decode code 136 = .ok (.aload_n 1, 1) := by decide +kernel
theorem dl_137 : decode code 137 = .ok (.aload_n 0, 1) := by decide +kernel
theorem dl_138 : decode code 138 = .ok (.iload 4, 2) := by decide +kernel
theorem dl_140 : decode code 140 = .ok (.iconst 1, 1) := by decide +kernel
theorem dl_141 : decode code 141 = .ok (.iadd, 1) := by decide +kernel
theorem dl_142 : decode code 142 = .ok (.iaload, 1) := by decide +kernel
theorem dl_143 : decode code 143 = .ok (.aload_n 0, 1) := by decide +kernel
theorem dl_144 : decode code 144 = .ok (.iload 4, 2) := by decide +kernel
theorem dl_146 : decode code 146 = .ok (.iconst 2, 1) := by decide +kernel
theorem dl_147 : decode code 147 = .ok (.iadd, 1) := by decide +kernel
theorem dl_148 : decode code 148 = .ok (.iaload, 1) := by decide +kernel
theorem dl_149 : decode code 149 = .ok (.aload_n 0, 1) := by decide +kernel
theorem dl_150 : decode code 150 = .ok (.iload 4, 2) := by decide +kernel
theorem dl_152 : decode code 152 = .ok (.iconst 3, 1) := by decide +kernel
theorem dl_153 : decode code 153 = .ok (.iadd, 1) := by decide +kernel
theorem dl_154 : decode code 154 = .ok (.iaload, 1) := by decide +kernel
theorem dl_155 : decode code 155 = .ok (.aload_n 0, 1) := by decide +kernel
theorem dl_156 : decode code 156 = .ok (.iload 4, 2) := by decide +kernel
theorem dl_158 : decode code 158 = .ok (.iconst 4, 1) := by decide +kernel
theorem dl_159 : decode code 159 = .ok (.iadd, 1) := by decide +kernel
theorem dl_160 : decode code 160 = .ok (.iaload, 1) := by decide +kernel
theorem dl_161 : decode code 161 = .ok (.aload_n 3, 1) := by decide +kernel
theorem dl_162 : decode code 162 = .ok (.invokestatic 94, 3) := by decide +kernel
theorem dl_165 : decode code 165 = .ok (.istore 5, 2) := by decide +kernel
theorem dl_167 : decode code 167 = .ok (.aload_n 2, 1) := by decide +kernel
theorem dl_168 : decode code 168 = .ok (.aload_n 0, 1) := by decide +kernel
theorem dl_169 : decode code 169 = .ok (.iload 4, 2) := by decide +kernel
theorem dl_171 : decode code 171 = .ok (.iconst 1, 1) := by decide +kernel
theorem dl_172 : decode code 172 = .ok (.iadd, 1) := by decide +kernel
theorem dl_173 : decode code 173 = .ok (.iaload, 1) := by decide +kernel
theorem dl_174 : decode code 174 = .ok (.aload_n 0, 1) := by decide +kernel
theorem dl_175 : decode code 175 = .ok (.iload 4, 2) := by decide +kernel
theorem dl_177 : decode code 177 = .ok (.iconst 2, 1) := by decide +kernel
theorem dl_178 : decode code 178 = .ok (.iadd, 1) := by decide +kernel
theorem dl_179 : decode code 179 = .ok (.iaload, 1) := by decide +kernel
theorem dl_180 : decode code 180 = .ok (.aload_n 0, 1) := by decide +kernel
theorem dl_181 : decode code 181 = .ok (.iload 4, 2) := by decide +kernel
theorem dl_183 : decode code 183 = .ok (.iconst 3, 1) := by decide +kernel
theorem dl_184 : decode code 184 = .ok (.iadd, 1) := by decide +kernel
theorem dl_185 : decode code 185 = .ok (.iaload, 1) := by decide +kernel
theorem dl_186 : decode code 186 = .ok (.aload_n 0, 1) := by decide +kernel
theorem dl_187 : decode code 187 = .ok (.iload 4, 2) := by decide +kernel
theorem dl_189 : decode code 189 = .ok (.iconst 4, 1) := by decide +kernel
theorem dl_190 : decode code 190 = .ok (.iadd, 1) := by decide +kernel
theorem dl_191 : decode code 191 = .ok (.iaload, 1) := by decide +kernel
theorem dl_192 : decode code 192 = .ok (.invokevirtual 99, 3) := by decide +kernel
theorem dl_195 : decode code 195 = .ok (.istore 6, 2) := by decide +kernel
theorem dl_197 : decode code 197 = .ok (.aload_n 2, 1) := by decide +kernel
theorem dl_198 : decode code 198 = .ok (.invokevirtual 100, 3) := by decide +kernel
theorem dl_201 : decode code 201 = .ok (.iload 5, 2) := by decide +kernel
theorem dl_203 : decode code 203 = .ok (.if_icmp .eq 5, 3) := by decide +kernel
theorem dl_206 : decode code 206 = .ok (.iconst 0, 1) := by decide +kernel
theorem dl_207 : decode code 207 = .ok (.ireturn, 1) := by decide +kernel
theorem dl_208 : decode code 208 = .ok (.iload 5, 2) := by decide +kernel
theorem dl_210 : decode code 210 = .ok (.ifCond .ne 15, 3) := by decide +kernel
theorem dl_213 : decode code 213 = .ok (.aload_n 3, 1) := by decide +kernel
theorem dl_214 : decode code 214 = .ok (.iconst 0, 1) := by decide +kernel
theorem dl_215 : decode code 215 = .ok (.laload, 1) := by decide +kernel
theorem dl_216 : decode code 216 = .ok (.iload 6, 2) := by decide +kernel
theorem dl_218 : decode code 218 = .ok (.i2l, 1) := by decide +kernel
theorem dl_219 : decode code 219 = .ok (.lcmp, 1) := by decide +kernel
theorem dl_220 : decode code 220 = .ok (.ifCond .eq 5, 3) := by decide +kernel
theorem dl_223 : decode code 223 = .ok (.iconst 0, 1) := by decide +kernel
theorem dl_224 : decode code 224 = .ok (.ireturn, 1) := by decide +kernel
theorem dl_225 : decode code 225 = .ok (.goto 1456, 3) := by decide +kernel
set_option maxHeartbeats 4000000 in
set_option maxRecDepth 100000 in
theorem lc_0 {Iv : CS → MS → Prop} (P : PP_pay Iv) {p : Program} {l : Launch} {e : Env} {sv : State} {m : MethodId} {args : Array Value} {below : List Frame} {meth : Method} {c : Code} {Q : State → Prop} {b L : Nat} {xs : Nat → Int32} {g : Gx} {A : Nat → Prop} (hl0 : l.stackTraces = false) (C0 : ct_Cx R_La code 8 p sv m args meth c g A) (hX : va_X b L xs sv sv.heap) (hbl : b < sv.heap.size) (hbA : ¬ A b) {i : Int32} (hi : vp_in i L ∧ vp_in (i + 1) L ∧ vp_in (i + 2) L ∧ vp_in (i + 3) L ∧ vp_in (i + 4) L) {ws : va_W} {H : Heap} {locs : List Loc} {cells slots : Nat} {s : CS} {t : MS} {out : Nat → Int64} {ls : Array Slot} (hw : ct_Wd g A sv ws H locs) (hW : LWd g ws s t out) (hI : Iv s t) (hl : lv_has ls 8 [(4, .int i), (0, .ref b), (1, .ref (g.2.1 0)), (2, .ref (g.2.1 35)), (3, .ref (g.2.1 47))]) (hc : cells + 20 ≤ 601024) (hs : slots + 120 ≤ 7293034)
    (kk : ∀ (ws : va_W) (H : Heap) (locs : List Loc) (cells1 slots1 : Nat) (s : CS) (t : MS) (out : Nat → Int64) (ls : Array Slot), ct_Wd g A sv ws H locs → LWd g ws s t out → Iv s t → lv_has ls 8 [(4, .int i), (0, .ref b), (1, .ref (g.2.1 0)), (2, .ref (g.2.1 35)), (3, .ref (g.2.1 47))] → cells1 ≤ cells + 20 → slots1 ≤ slots + 120 → W p l e room_1 sv m args below meth c H locs cells1 slots1 Q (F0 m 1681 ls [])) : W p l e room_1 sv m args below meth c H locs cells slots Q (F0 m 136 ls []) := by
  have hx := C0.1
  have hb := C0.2.1
  refine lv_aload_n hx hb dl_136 rfl (lv_at hl 2 rfl) ?_
  refine lv_aload_n hx hb dl_137 rfl (lv_at hl 1 rfl) ?_
  refine lv_iload hx hb dl_138 (lv_at hl 0 rfl) ?_
  refine lv_iconst (v := 1) hx hb dl_140 (by decide) ?_
  refine lv_iadd hx hb dl_141 ?_
  refine va_sld hx hb hX hbl hbA hw.2.2 hi.2.1 dl_142 ?_
  refine lv_aload_n hx hb dl_143 rfl (lv_at hl 1 rfl) ?_
  refine lv_iload hx hb dl_144 (lv_at hl 0 rfl) ?_
  refine lv_iconst (v := 2) hx hb dl_146 (by decide) ?_
  refine lv_iadd hx hb dl_147 ?_
  refine va_sld hx hb hX hbl hbA hw.2.2 hi.2.2.1 dl_148 ?_
  refine lv_aload_n hx hb dl_149 rfl (lv_at hl 1 rfl) ?_
  refine lv_iload hx hb dl_150 (lv_at hl 0 rfl) ?_
  refine lv_iconst (v := 3) hx hb dl_152 (by decide) ?_
  refine lv_iadd hx hb dl_153 ?_
  refine va_sld hx hb hX hbl hbA hw.2.2 hi.2.2.2.1 dl_154 ?_
  refine lv_aload_n hx hb dl_155 rfl (lv_at hl 1 rfl) ?_
  refine lv_iload hx hb dl_156 (lv_at hl 0 rfl) ?_
  refine lv_iconst (v := 4) hx hb dl_158 (by decide) ?_
  refine lv_iadd hx hb dl_159 ?_
  refine va_sld hx hb hX hbl hbA hw.2.2 hi.2.2.2.2 dl_160 ?_
  refine lv_aload_n hx hb dl_161 rfl (lv_at hl 4 rfl) ?_
  obtain ⟨o9, r9, t9, e1, e2, hk, hth, hI, hv⟩ := P s t hI (xs (i + 1).toNatClampNeg) (xs (i + 2).toNatClampNeg) (xs (i + 3).toNatClampNeg) (xs (i + 4).toNatClampNeg)
  refine ct_callW (hh := hh_La_pay) C0 hw hl.1 wd_197 wd_198 wd_0 wd_199 (fun sz => w_La_pay l g ws sz hW.cs hW.2.2 hl0 e1 hk) (nA := 6) (rm := rm_La_pay) (by decide +kernel) rfl ⟨rfl, rfl⟩ (by decide) ⟨by show cells + 4 ≤ 601024; omega, by show slots + 24 ≤ 7293034; omega⟩ (As := [.ref (g.2.1 0), .int (xs (i + 1).toNatClampNeg), .int (xs (i + 2).toNatClampNeg), .int (xs (i + 3).toNatClampNeg), .int (xs (i + 4).toNatClampNeg), .ref (g.2.1 47)]) (rest := []) rfl (Nat.le_of_ble_eq_true rfl) dl_162 (fun ws H locs hw hp => ?_)
  have hW := hW.wr hp
  clear hp
  refine lv_istore (lv' := [(5, .int (wr_code o9)), (4, .int i), (0, .ref b), (1, .ref (g.2.1 0)), (2, .ref (g.2.1 35)), (3, .ref (g.2.1 47))]) hx hb dl_165 hl (by decide) rfl (fun ls hl => ?_)
  refine lv_aload_n hx hb dl_167 rfl (lv_at hl 4 rfl) ?_
  refine lv_aload_n hx hb dl_168 rfl (lv_at hl 2 rfl) ?_
  refine lv_iload hx hb dl_169 (lv_at hl 1 rfl) ?_
  refine lv_iconst (v := 1) hx hb dl_171 (by decide) ?_
  refine lv_iadd hx hb dl_172 ?_
  refine va_sld hx hb hX hbl hbA hw.2.2 hi.2.1 dl_173 ?_
  refine lv_aload_n hx hb dl_174 rfl (lv_at hl 2 rfl) ?_
  refine lv_iload hx hb dl_175 (lv_at hl 1 rfl) ?_
  refine lv_iconst (v := 2) hx hb dl_177 (by decide) ?_
  refine lv_iadd hx hb dl_178 ?_
  refine va_sld hx hb hX hbl hbA hw.2.2 hi.2.2.1 dl_179 ?_
  refine lv_aload_n hx hb dl_180 rfl (lv_at hl 2 rfl) ?_
  refine lv_iload hx hb dl_181 (lv_at hl 1 rfl) ?_
  refine lv_iconst (v := 3) hx hb dl_183 (by decide) ?_
  refine lv_iadd hx hb dl_184 ?_
  refine va_sld hx hb hX hbl hbA hw.2.2 hi.2.2.2.1 dl_185 ?_
  refine lv_aload_n hx hb dl_186 rfl (lv_at hl 2 rfl) ?_
  refine lv_iload hx hb dl_187 (lv_at hl 1 rfl) ?_
  refine lv_iconst (v := 4) hx hb dl_189 (by decide) ?_
  refine lv_iadd hx hb dl_190 ?_
  refine va_sld hx hb hX hbl hbA hw.2.2 hi.2.2.2.2 dl_191 ?_
  refine ct_callVi C0 hw hl.1 (q0 := 35) (hW.2.1 35 (by decide) (by decide)) rfl (ct_giV wd_794 wd_795 wd_796 wd_7 wd_797) (fun sz => s_Mo_pay l g ws sz hW.ms e2) (nA := 4) (rm := rm_Mo_pay) (by decide +kernel) rfl ⟨rfl, rfl⟩ (by decide) ⟨by show cells + 4 + 0 ≤ 601024; omega, by show slots + 24 + 0 ≤ 7293034; omega⟩ (As := [.int (xs (i + 1).toNatClampNeg), .int (xs (i + 2).toNatClampNeg), .int (xs (i + 3).toNatClampNeg), .int (xs (i + 4).toNatClampNeg)]) (rest := []) rfl (Nat.le_of_ble_eq_true rfl) dl_192 (fun ws1 H locs hw hp => ?_)
  have hW := hW.mo hp
  clear hp
  generalize ws1 = ws at hw hW
  refine lv_istore (lv' := [(6, .int r9), (5, .int (wr_code o9)), (4, .int i), (0, .ref b), (1, .ref (g.2.1 0)), (2, .ref (g.2.1 35)), (3, .ref (g.2.1 47))]) hx hb dl_195 hl (by decide) rfl (fun ls hl => ?_)
  refine lv_aload_n hx hb dl_197 rfl (lv_at hl 5 rfl) ?_
  refine ct_callVi C0 hw hl.1 (q0 := 35) (hW.2.1 35 (by decide) (by decide)) rfl (ct_giV wd_790 wd_791 wd_792 wd_7 wd_793) (fun sz => s_Mo_thrown l g ws sz hW.ms (show fn_Mo_thrown t9 = some (ms_I t9 0) from rfl)) (nA := 0) (rm := rm_Mo_thrown) (by decide +kernel) rfl ⟨rfl, rfl⟩ (by decide) ⟨by show cells + 4 + 0 ≤ 601024; omega, by show slots + 24 + 0 ≤ 7293034; omega⟩ (As := []) (rest := []) rfl (Nat.le_of_ble_eq_true rfl) dl_198 (fun ws1 H locs hw hp => ?_)
  rw [hp] at hw
  clear hp
  refine lv_iload hx hb dl_201 (lv_at hl 1 rfl) ?_
  refine lv_icmp_eq hx hb (tgt := 208) dl_203 (by decide) (fun _ => ?_) (fun hc9 => absurd hth hc9)
  refine lv_iload hx hb dl_208 (lv_at hl 1 rfl) ?_
  have hE : W p l e room_1 sv m args below meth c H locs (cells + 4 + 0) (slots + 24 + 0) Q (F0 m 225 ls []) := by
    refine lv_goto hx hb (tgt := 1681) dl_225 (by decide) ?_
    exact kk ws H locs _ _ _ _ _ ls hw hW hI (lv_sub hl [2, 3, 4, 5, 6] rfl) (by omega) (by omega)
  refine lv_if_ne hx hb (tgt := 225) dl_210 (by decide) (fun _ => hE) (fun hz => ?_)
  refine lv_aload_n hx hb dl_213 rfl (lv_at hl 6 rfl) ?_
  refine lv_iconst (v := 0) hx hb dl_214 (by decide) ?_
  refine va_lald hx hb C0.2.2.2.2.2.1.1 hw.1 47 2 hW.2.2 rfl (ct_inR_vp (by decide)) dl_215 ?_
  refine lv_iload hx hb dl_216 (lv_at hl 0 rfl) ?_
  refine lv_i2l hx hb dl_218 rfl ?_
  refine W.lcmp hx hb dl_219 ?_
  refine lv_if_eq hx hb (tgt := 225) dl_220 (by decide) (fun _ => hE) (fun hz2 => absurd ((lg_cmp_eq _ _).mpr (wr_eqI hz hv)) hz2)
theorem dl_228 : decode code 228 = .ok (.aload_n 1, 1) := by decide +kernel
theorem dl_229 : decode code 229 = .ok (.aload_n 0, 1) := by decide +kernel
theorem dl_230 : decode code 230 = .ok (.iload 4, 2) := by decide +kernel
theorem dl_232 : decode code 232 = .ok (.iconst 1, 1) := by decide +kernel
theorem dl_233 : decode code 233 = .ok (.iadd, 1) := by decide +kernel
theorem dl_234 : decode code 234 = .ok (.iaload, 1) := by decide +kernel
theorem dl_235 : decode code 235 = .ok (.aload_n 0, 1) := by decide +kernel
theorem dl_236 : decode code 236 = .ok (.iload 4, 2) := by decide +kernel
theorem dl_238 : decode code 238 = .ok (.iconst 2, 1) := by decide +kernel
theorem dl_239 : decode code 239 = .ok (.iadd, 1) := by decide +kernel
theorem dl_240 : decode code 240 = .ok (.iaload, 1) := by decide +kernel
theorem dl_241 : decode code 241 = .ok (.aload_n 0, 1) := by decide +kernel
theorem dl_242 : decode code 242 = .ok (.iload 4, 2) := by decide +kernel
theorem dl_244 : decode code 244 = .ok (.iconst 3, 1) := by decide +kernel
theorem dl_245 : decode code 245 = .ok (.iadd, 1) := by decide +kernel
theorem dl_246 : decode code 246 = .ok (.iaload, 1) := by decide +kernel
theorem dl_247 : decode code 247 = .ok (.aload_n 0, 1) := by decide +kernel
theorem dl_248 : decode code 248 = .ok (.iload 4, 2) := by decide +kernel
theorem dl_250 : decode code 250 = .ok (.iconst 4, 1) := by decide +kernel
theorem dl_251 : decode code 251 = .ok (.iadd, 1) := by decide +kernel
theorem dl_252 : decode code 252 = .ok (.iaload, 1) := by decide +kernel
theorem dl_253 : decode code 253 = .ok (.aload_n 3, 1) := by decide +kernel
theorem dl_254 : decode code 254 = .ok (.invokestatic 104, 3) := by decide +kernel
theorem dl_257 : decode code 257 = .ok (.istore 5, 2) := by decide +kernel
theorem dl_259 : decode code 259 = .ok (.aload_n 2, 1) := by decide +kernel
theorem dl_260 : decode code 260 = .ok (.aload_n 0, 1) := by decide +kernel
theorem dl_261 : decode code 261 = .ok (.iload 4, 2) := by decide +kernel
theorem dl_263 : decode code 263 = .ok (.iconst 1, 1) := by decide +kernel
theorem dl_264 : decode code 264 = .ok (.iadd, 1) := by decide +kernel
theorem dl_265 : decode code 265 = .ok (.iaload, 1) := by decide +kernel
theorem dl_266 : decode code 266 = .ok (.aload_n 0, 1) := by decide +kernel
theorem dl_267 : decode code 267 = .ok (.iload 4, 2) := by decide +kernel
theorem dl_269 : decode code 269 = .ok (.iconst 2, 1) := by decide +kernel
theorem dl_270 : decode code 270 = .ok (.iadd, 1) := by decide +kernel
theorem dl_271 : decode code 271 = .ok (.iaload, 1) := by decide +kernel
theorem dl_272 : decode code 272 = .ok (.aload_n 0, 1) := by decide +kernel
theorem dl_273 : decode code 273 = .ok (.iload 4, 2) := by decide +kernel
theorem dl_275 : decode code 275 = .ok (.iconst 3, 1) := by decide +kernel
theorem dl_276 : decode code 276 = .ok (.iadd, 1) := by decide +kernel
theorem dl_277 : decode code 277 = .ok (.iaload, 1) := by decide +kernel
theorem dl_278 : decode code 278 = .ok (.aload_n 0, 1) := by decide +kernel
theorem dl_279 : decode code 279 = .ok (.iload 4, 2) := by decide +kernel
theorem dl_281 : decode code 281 = .ok (.iconst 4, 1) := by decide +kernel
theorem dl_282 : decode code 282 = .ok (.iadd, 1) := by decide +kernel
theorem dl_283 : decode code 283 = .ok (.iaload, 1) := by decide +kernel
theorem dl_284 : decode code 284 = .ok (.invokevirtual 106, 3) := by decide +kernel
theorem dl_287 : decode code 287 = .ok (.istore 6, 2) := by decide +kernel
theorem dl_289 : decode code 289 = .ok (.aload_n 2, 1) := by decide +kernel
theorem dl_290 : decode code 290 = .ok (.invokevirtual 100, 3) := by decide +kernel
theorem dl_293 : decode code 293 = .ok (.iload 5, 2) := by decide +kernel
theorem dl_295 : decode code 295 = .ok (.if_icmp .eq 5, 3) := by decide +kernel
theorem dl_298 : decode code 298 = .ok (.iconst 0, 1) := by decide +kernel
theorem dl_299 : decode code 299 = .ok (.ireturn, 1) := by decide +kernel
theorem dl_300 : decode code 300 = .ok (.iload 5, 2) := by decide +kernel
theorem dl_302 : decode code 302 = .ok (.ifCond .ne 15, 3) := by decide +kernel
theorem dl_305 : decode code 305 = .ok (.aload_n 3, 1) := by decide +kernel
theorem dl_306 : decode code 306 = .ok (.iconst 0, 1) := by decide +kernel
theorem dl_307 : decode code 307 = .ok (.laload, 1) := by decide +kernel
theorem dl_308 : decode code 308 = .ok (.iload 6, 2) := by decide +kernel
theorem dl_310 : decode code 310 = .ok (.i2l, 1) := by decide +kernel
theorem dl_311 : decode code 311 = .ok (.lcmp, 1) := by decide +kernel
theorem dl_312 : decode code 312 = .ok (.ifCond .eq 5, 3) := by decide +kernel
theorem dl_315 : decode code 315 = .ok (.iconst 0, 1) := by decide +kernel
theorem dl_316 : decode code 316 = .ok (.ireturn, 1) := by decide +kernel
theorem dl_317 : decode code 317 = .ok (.goto 1364, 3) := by decide +kernel
set_option maxHeartbeats 4000000 in
set_option maxRecDepth 100000 in
theorem lc_1 {Iv : CS → MS → Prop} (P : PP_estimate Iv) {p : Program} {l : Launch} {e : Env} {sv : State} {m : MethodId} {args : Array Value} {below : List Frame} {meth : Method} {c : Code} {Q : State → Prop} {b L : Nat} {xs : Nat → Int32} {g : Gx} {A : Nat → Prop} (hl0 : l.stackTraces = false) (C0 : ct_Cx R_La code 8 p sv m args meth c g A) (hX : va_X b L xs sv sv.heap) (hbl : b < sv.heap.size) (hbA : ¬ A b) {i : Int32} (hi : vp_in i L ∧ vp_in (i + 1) L ∧ vp_in (i + 2) L ∧ vp_in (i + 3) L ∧ vp_in (i + 4) L) {ws : va_W} {H : Heap} {locs : List Loc} {cells slots : Nat} {s : CS} {t : MS} {out : Nat → Int64} {ls : Array Slot} (hw : ct_Wd g A sv ws H locs) (hW : LWd g ws s t out) (hI : Iv s t) (hl : lv_has ls 8 [(4, .int i), (0, .ref b), (1, .ref (g.2.1 0)), (2, .ref (g.2.1 35)), (3, .ref (g.2.1 47))]) (hc : cells + 20 ≤ 601024) (hs : slots + 120 ≤ 7293034)
    (kk : ∀ (ws : va_W) (H : Heap) (locs : List Loc) (cells1 slots1 : Nat) (s : CS) (t : MS) (out : Nat → Int64) (ls : Array Slot), ct_Wd g A sv ws H locs → LWd g ws s t out → Iv s t → lv_has ls 8 [(4, .int i), (0, .ref b), (1, .ref (g.2.1 0)), (2, .ref (g.2.1 35)), (3, .ref (g.2.1 47))] → cells1 ≤ cells + 20 → slots1 ≤ slots + 120 → W p l e room_1 sv m args below meth c H locs cells1 slots1 Q (F0 m 1681 ls [])) : W p l e room_1 sv m args below meth c H locs cells slots Q (F0 m 228 ls []) := by
  have hx := C0.1
  have hb := C0.2.1
  refine lv_aload_n hx hb dl_228 rfl (lv_at hl 2 rfl) ?_
  refine lv_aload_n hx hb dl_229 rfl (lv_at hl 1 rfl) ?_
  refine lv_iload hx hb dl_230 (lv_at hl 0 rfl) ?_
  refine lv_iconst (v := 1) hx hb dl_232 (by decide) ?_
  refine lv_iadd hx hb dl_233 ?_
  refine va_sld hx hb hX hbl hbA hw.2.2 hi.2.1 dl_234 ?_
  refine lv_aload_n hx hb dl_235 rfl (lv_at hl 1 rfl) ?_
  refine lv_iload hx hb dl_236 (lv_at hl 0 rfl) ?_
  refine lv_iconst (v := 2) hx hb dl_238 (by decide) ?_
  refine lv_iadd hx hb dl_239 ?_
  refine va_sld hx hb hX hbl hbA hw.2.2 hi.2.2.1 dl_240 ?_
  refine lv_aload_n hx hb dl_241 rfl (lv_at hl 1 rfl) ?_
  refine lv_iload hx hb dl_242 (lv_at hl 0 rfl) ?_
  refine lv_iconst (v := 3) hx hb dl_244 (by decide) ?_
  refine lv_iadd hx hb dl_245 ?_
  refine va_sld hx hb hX hbl hbA hw.2.2 hi.2.2.2.1 dl_246 ?_
  refine lv_aload_n hx hb dl_247 rfl (lv_at hl 1 rfl) ?_
  refine lv_iload hx hb dl_248 (lv_at hl 0 rfl) ?_
  refine lv_iconst (v := 4) hx hb dl_250 (by decide) ?_
  refine lv_iadd hx hb dl_251 ?_
  refine va_sld hx hb hX hbl hbA hw.2.2 hi.2.2.2.2 dl_252 ?_
  refine lv_aload_n hx hb dl_253 rfl (lv_at hl 4 rfl) ?_
  obtain ⟨o9, r9, t9, e1, e2, hk, hth, hI, hv⟩ := P s t hI (xs (i + 1).toNatClampNeg) (xs (i + 2).toNatClampNeg) (xs (i + 3).toNatClampNeg) (xs (i + 4).toNatClampNeg)
  refine ct_callW (hh := hh_La_estimate) C0 hw hl.1 wd_344 wd_345 wd_0 wd_346 (fun sz => w_La_estimate l g ws sz hW.cs hW.2.2 hl0 e1 hk) (nA := 6) (rm := rm_La_estimate) (by decide +kernel) rfl ⟨rfl, rfl⟩ (by decide) ⟨by show cells + 4 ≤ 601024; omega, by show slots + 24 ≤ 7293034; omega⟩ (As := [.ref (g.2.1 0), .int (xs (i + 1).toNatClampNeg), .int (xs (i + 2).toNatClampNeg), .int (xs (i + 3).toNatClampNeg), .int (xs (i + 4).toNatClampNeg), .ref (g.2.1 47)]) (rest := []) rfl (Nat.le_of_ble_eq_true rfl) dl_254 (fun ws H locs hw hp => ?_)
  have hW := hW.wr hp
  clear hp
  refine lv_istore (lv' := [(5, .int (wr_code o9)), (4, .int i), (0, .ref b), (1, .ref (g.2.1 0)), (2, .ref (g.2.1 35)), (3, .ref (g.2.1 47))]) hx hb dl_257 hl (by decide) rfl (fun ls hl => ?_)
  refine lv_aload_n hx hb dl_259 rfl (lv_at hl 4 rfl) ?_
  refine lv_aload_n hx hb dl_260 rfl (lv_at hl 2 rfl) ?_
  refine lv_iload hx hb dl_261 (lv_at hl 1 rfl) ?_
  refine lv_iconst (v := 1) hx hb dl_263 (by decide) ?_
  refine lv_iadd hx hb dl_264 ?_
  refine va_sld hx hb hX hbl hbA hw.2.2 hi.2.1 dl_265 ?_
  refine lv_aload_n hx hb dl_266 rfl (lv_at hl 2 rfl) ?_
  refine lv_iload hx hb dl_267 (lv_at hl 1 rfl) ?_
  refine lv_iconst (v := 2) hx hb dl_269 (by decide) ?_
  refine lv_iadd hx hb dl_270 ?_
  refine va_sld hx hb hX hbl hbA hw.2.2 hi.2.2.1 dl_271 ?_
  refine lv_aload_n hx hb dl_272 rfl (lv_at hl 2 rfl) ?_
  refine lv_iload hx hb dl_273 (lv_at hl 1 rfl) ?_
  refine lv_iconst (v := 3) hx hb dl_275 (by decide) ?_
  refine lv_iadd hx hb dl_276 ?_
  refine va_sld hx hb hX hbl hbA hw.2.2 hi.2.2.2.1 dl_277 ?_
  refine lv_aload_n hx hb dl_278 rfl (lv_at hl 2 rfl) ?_
  refine lv_iload hx hb dl_279 (lv_at hl 1 rfl) ?_
  refine lv_iconst (v := 4) hx hb dl_281 (by decide) ?_
  refine lv_iadd hx hb dl_282 ?_
  refine va_sld hx hb hX hbl hbA hw.2.2 hi.2.2.2.2 dl_283 ?_
  refine ct_callVi C0 hw hl.1 (q0 := 35) (hW.2.1 35 (by decide) (by decide)) rfl (ct_giV wd_810 wd_811 wd_812 wd_7 wd_813) (fun sz => s_Mo_estimate l g ws sz hW.ms e2) (nA := 4) (rm := rm_Mo_estimate) (by decide +kernel) rfl ⟨rfl, rfl⟩ (by decide) ⟨by show cells + 4 + 0 ≤ 601024; omega, by show slots + 24 + 0 ≤ 7293034; omega⟩ (As := [.int (xs (i + 1).toNatClampNeg), .int (xs (i + 2).toNatClampNeg), .int (xs (i + 3).toNatClampNeg), .int (xs (i + 4).toNatClampNeg)]) (rest := []) rfl (Nat.le_of_ble_eq_true rfl) dl_284 (fun ws1 H locs hw hp => ?_)
  have hW := hW.mo hp
  clear hp
  generalize ws1 = ws at hw hW
  refine lv_istore (lv' := [(6, .int r9), (5, .int (wr_code o9)), (4, .int i), (0, .ref b), (1, .ref (g.2.1 0)), (2, .ref (g.2.1 35)), (3, .ref (g.2.1 47))]) hx hb dl_287 hl (by decide) rfl (fun ls hl => ?_)
  refine lv_aload_n hx hb dl_289 rfl (lv_at hl 5 rfl) ?_
  refine ct_callVi C0 hw hl.1 (q0 := 35) (hW.2.1 35 (by decide) (by decide)) rfl (ct_giV wd_790 wd_791 wd_792 wd_7 wd_793) (fun sz => s_Mo_thrown l g ws sz hW.ms (show fn_Mo_thrown t9 = some (ms_I t9 0) from rfl)) (nA := 0) (rm := rm_Mo_thrown) (by decide +kernel) rfl ⟨rfl, rfl⟩ (by decide) ⟨by show cells + 4 + 0 ≤ 601024; omega, by show slots + 24 + 0 ≤ 7293034; omega⟩ (As := []) (rest := []) rfl (Nat.le_of_ble_eq_true rfl) dl_290 (fun ws1 H locs hw hp => ?_)
  rw [hp] at hw
  clear hp
  refine lv_iload hx hb dl_293 (lv_at hl 1 rfl) ?_
  refine lv_icmp_eq hx hb (tgt := 300) dl_295 (by decide) (fun _ => ?_) (fun hc9 => absurd hth hc9)
  refine lv_iload hx hb dl_300 (lv_at hl 1 rfl) ?_
  have hE : W p l e room_1 sv m args below meth c H locs (cells + 4 + 0) (slots + 24 + 0) Q (F0 m 317 ls []) := by
    refine lv_goto hx hb (tgt := 1681) dl_317 (by decide) ?_
    exact kk ws H locs _ _ _ _ _ ls hw hW hI (lv_sub hl [2, 3, 4, 5, 6] rfl) (by omega) (by omega)
  refine lv_if_ne hx hb (tgt := 317) dl_302 (by decide) (fun _ => hE) (fun hz => ?_)
  refine lv_aload_n hx hb dl_305 rfl (lv_at hl 6 rfl) ?_
  refine lv_iconst (v := 0) hx hb dl_306 (by decide) ?_
  refine va_lald hx hb C0.2.2.2.2.2.1.1 hw.1 47 2 hW.2.2 rfl (ct_inR_vp (by decide)) dl_307 ?_
  refine lv_iload hx hb dl_308 (lv_at hl 0 rfl) ?_
  refine lv_i2l hx hb dl_310 rfl ?_
  refine W.lcmp hx hb dl_311 ?_
  refine lv_if_eq hx hb (tgt := 317) dl_312 (by decide) (fun _ => hE) (fun hz2 => absurd ((lg_cmp_eq _ _).mpr (wr_eqI hz hv)) hz2)
theorem dl_320 : decode code 320 = .ok (.aload_n 1, 1) := by decide +kernel
theorem dl_321 : decode code 321 = .ok (.aload_n 0, 1) := by decide +kernel
theorem dl_322 : decode code 322 = .ok (.iload 4, 2) := by decide +kernel
theorem dl_324 : decode code 324 = .ok (.iconst 1, 1) := by decide +kernel
theorem dl_325 : decode code 325 = .ok (.iadd, 1) := by decide +kernel
theorem dl_326 : decode code 326 = .ok (.iaload, 1) := by decide +kernel
theorem dl_327 : decode code 327 = .ok (.aload_n 3, 1) := by decide +kernel
theorem dl_328 : decode code 328 = .ok (.invokestatic 107, 3) := by decide +kernel
theorem dl_331 : decode code 331 = .ok (.istore 5, 2) := by decide +kernel
theorem dl_333 : decode code 333 = .ok (.aload_n 2, 1) := by decide +kernel
theorem dl_334 : decode code 334 = .ok (.aload_n 0, 1) := by decide +kernel
theorem dl_335 : decode code 335 = .ok (.iload 4, 2) := by decide +kernel
theorem dl_337 : decode code 337 = .ok (.iconst 1, 1) := by decide +kernel
theorem dl_338 : decode code 338 = .ok (.iadd, 1) := by decide +kernel
theorem dl_339 : decode code 339 = .ok (.iaload, 1) := by decide +kernel
theorem dl_340 : decode code 340 = .ok (.invokevirtual 110, 3) := by decide +kernel
theorem dl_343 : decode code 343 = .ok (.istore 6, 2) := by decide +kernel
theorem dl_345 : decode code 345 = .ok (.aload_n 2, 1) := by decide +kernel
theorem dl_346 : decode code 346 = .ok (.invokevirtual 100, 3) := by decide +kernel
theorem dl_349 : decode code 349 = .ok (.iload 5, 2) := by decide +kernel
theorem dl_351 : decode code 351 = .ok (.if_icmp .eq 5, 3) := by decide +kernel
theorem dl_354 : decode code 354 = .ok (.iconst 0, 1) := by decide +kernel
theorem dl_355 : decode code 355 = .ok (.ireturn, 1) := by decide +kernel
theorem dl_356 : decode code 356 = .ok (.iload 5, 2) := by decide +kernel
theorem dl_358 : decode code 358 = .ok (.ifCond .ne 15, 3) := by decide +kernel
theorem dl_361 : decode code 361 = .ok (.aload_n 3, 1) := by decide +kernel
theorem dl_362 : decode code 362 = .ok (.iconst 0, 1) := by decide +kernel
theorem dl_363 : decode code 363 = .ok (.laload, 1) := by decide +kernel
theorem dl_364 : decode code 364 = .ok (.iload 6, 2) := by decide +kernel
theorem dl_366 : decode code 366 = .ok (.i2l, 1) := by decide +kernel
theorem dl_367 : decode code 367 = .ok (.lcmp, 1) := by decide +kernel
theorem dl_368 : decode code 368 = .ok (.ifCond .eq 5, 3) := by decide +kernel
theorem dl_371 : decode code 371 = .ok (.iconst 0, 1) := by decide +kernel
theorem dl_372 : decode code 372 = .ok (.ireturn, 1) := by decide +kernel
theorem dl_373 : decode code 373 = .ok (.goto 1308, 3) := by decide +kernel
set_option maxHeartbeats 4000000 in
set_option maxRecDepth 100000 in
theorem lc_2 {Iv : CS → MS → Prop} (P : PP_strike Iv) {p : Program} {l : Launch} {e : Env} {sv : State} {m : MethodId} {args : Array Value} {below : List Frame} {meth : Method} {c : Code} {Q : State → Prop} {b L : Nat} {xs : Nat → Int32} {g : Gx} {A : Nat → Prop} (hl0 : l.stackTraces = false) (C0 : ct_Cx R_La code 8 p sv m args meth c g A) (hX : va_X b L xs sv sv.heap) (hbl : b < sv.heap.size) (hbA : ¬ A b) {i : Int32} (hi : vp_in i L ∧ vp_in (i + 1) L ∧ vp_in (i + 2) L ∧ vp_in (i + 3) L ∧ vp_in (i + 4) L) {ws : va_W} {H : Heap} {locs : List Loc} {cells slots : Nat} {s : CS} {t : MS} {out : Nat → Int64} {ls : Array Slot} (hw : ct_Wd g A sv ws H locs) (hW : LWd g ws s t out) (hI : Iv s t) (hl : lv_has ls 8 [(4, .int i), (0, .ref b), (1, .ref (g.2.1 0)), (2, .ref (g.2.1 35)), (3, .ref (g.2.1 47))]) (hc : cells + 20 ≤ 601024) (hs : slots + 120 ≤ 7293034)
    (kk : ∀ (ws : va_W) (H : Heap) (locs : List Loc) (cells1 slots1 : Nat) (s : CS) (t : MS) (out : Nat → Int64) (ls : Array Slot), ct_Wd g A sv ws H locs → LWd g ws s t out → Iv s t → lv_has ls 8 [(4, .int i), (0, .ref b), (1, .ref (g.2.1 0)), (2, .ref (g.2.1 35)), (3, .ref (g.2.1 47))] → cells1 ≤ cells + 20 → slots1 ≤ slots + 120 → W p l e room_1 sv m args below meth c H locs cells1 slots1 Q (F0 m 1681 ls [])) : W p l e room_1 sv m args below meth c H locs cells slots Q (F0 m 320 ls []) := by
  have hx := C0.1
  have hb := C0.2.1
  refine lv_aload_n hx hb dl_320 rfl (lv_at hl 2 rfl) ?_
  refine lv_aload_n hx hb dl_321 rfl (lv_at hl 1 rfl) ?_
  refine lv_iload hx hb dl_322 (lv_at hl 0 rfl) ?_
  refine lv_iconst (v := 1) hx hb dl_324 (by decide) ?_
  refine lv_iadd hx hb dl_325 ?_
  refine va_sld hx hb hX hbl hbA hw.2.2 hi.2.1 dl_326 ?_
  refine lv_aload_n hx hb dl_327 rfl (lv_at hl 4 rfl) ?_
  obtain ⟨o9, r9, t9, e1, e2, hk, hth, hI, hv⟩ := P s t hI (xs (i + 1).toNatClampNeg)
  refine ct_callW (hh := hh_La_strike) C0 hw hl.1 wd_351 wd_352 wd_0 wd_353 (fun sz => w_La_strike l g ws sz hW.cs hW.2.2 hl0 e1 hk) (nA := 3) (rm := rm_La_strike) (by decide +kernel) rfl ⟨rfl, rfl⟩ (by decide) ⟨by show cells + 2 ≤ 601024; omega, by show slots + 12 ≤ 7293034; omega⟩ (As := [.ref (g.2.1 0), .int (xs (i + 1).toNatClampNeg), .ref (g.2.1 47)]) (rest := []) rfl (Nat.le_of_ble_eq_true rfl) dl_328 (fun ws H locs hw hp => ?_)
  have hW := hW.wr hp
  clear hp
  refine lv_istore (lv' := [(5, .int (wr_code o9)), (4, .int i), (0, .ref b), (1, .ref (g.2.1 0)), (2, .ref (g.2.1 35)), (3, .ref (g.2.1 47))]) hx hb dl_331 hl (by decide) rfl (fun ls hl => ?_)
  refine lv_aload_n hx hb dl_333 rfl (lv_at hl 4 rfl) ?_
  refine lv_aload_n hx hb dl_334 rfl (lv_at hl 2 rfl) ?_
  refine lv_iload hx hb dl_335 (lv_at hl 1 rfl) ?_
  refine lv_iconst (v := 1) hx hb dl_337 (by decide) ?_
  refine lv_iadd hx hb dl_338 ?_
  refine va_sld hx hb hX hbl hbA hw.2.2 hi.2.1 dl_339 ?_
  refine ct_callVi C0 hw hl.1 (q0 := 35) (hW.2.1 35 (by decide) (by decide)) rfl (ct_giV wd_814 wd_815 wd_816 wd_7 wd_817) (fun sz => s_Mo_strike l g ws sz hW.ms e2) (nA := 1) (rm := rm_Mo_strike) (by decide +kernel) rfl ⟨rfl, rfl⟩ (by decide) ⟨by show cells + 2 + 0 ≤ 601024; omega, by show slots + 12 + 0 ≤ 7293034; omega⟩ (As := [.int (xs (i + 1).toNatClampNeg)]) (rest := []) rfl (Nat.le_of_ble_eq_true rfl) dl_340 (fun ws1 H locs hw hp => ?_)
  have hW := hW.mo hp
  clear hp
  generalize ws1 = ws at hw hW
  refine lv_istore (lv' := [(6, .int r9), (5, .int (wr_code o9)), (4, .int i), (0, .ref b), (1, .ref (g.2.1 0)), (2, .ref (g.2.1 35)), (3, .ref (g.2.1 47))]) hx hb dl_343 hl (by decide) rfl (fun ls hl => ?_)
  refine lv_aload_n hx hb dl_345 rfl (lv_at hl 5 rfl) ?_
  refine ct_callVi C0 hw hl.1 (q0 := 35) (hW.2.1 35 (by decide) (by decide)) rfl (ct_giV wd_790 wd_791 wd_792 wd_7 wd_793) (fun sz => s_Mo_thrown l g ws sz hW.ms (show fn_Mo_thrown t9 = some (ms_I t9 0) from rfl)) (nA := 0) (rm := rm_Mo_thrown) (by decide +kernel) rfl ⟨rfl, rfl⟩ (by decide) ⟨by show cells + 2 + 0 ≤ 601024; omega, by show slots + 12 + 0 ≤ 7293034; omega⟩ (As := []) (rest := []) rfl (Nat.le_of_ble_eq_true rfl) dl_346 (fun ws1 H locs hw hp => ?_)
  rw [hp] at hw
  clear hp
  refine lv_iload hx hb dl_349 (lv_at hl 1 rfl) ?_
  refine lv_icmp_eq hx hb (tgt := 356) dl_351 (by decide) (fun _ => ?_) (fun hc9 => absurd hth hc9)
  refine lv_iload hx hb dl_356 (lv_at hl 1 rfl) ?_
  have hE : W p l e room_1 sv m args below meth c H locs (cells + 2 + 0) (slots + 12 + 0) Q (F0 m 373 ls []) := by
    refine lv_goto hx hb (tgt := 1681) dl_373 (by decide) ?_
    exact kk ws H locs _ _ _ _ _ ls hw hW hI (lv_sub hl [2, 3, 4, 5, 6] rfl) (by omega) (by omega)
  refine lv_if_ne hx hb (tgt := 373) dl_358 (by decide) (fun _ => hE) (fun hz => ?_)
  refine lv_aload_n hx hb dl_361 rfl (lv_at hl 6 rfl) ?_
  refine lv_iconst (v := 0) hx hb dl_362 (by decide) ?_
  refine va_lald hx hb C0.2.2.2.2.2.1.1 hw.1 47 2 hW.2.2 rfl (ct_inR_vp (by decide)) dl_363 ?_
  refine lv_iload hx hb dl_364 (lv_at hl 0 rfl) ?_
  refine lv_i2l hx hb dl_366 rfl ?_
  refine W.lcmp hx hb dl_367 ?_
  refine lv_if_eq hx hb (tgt := 373) dl_368 (by decide) (fun _ => hE) (fun hz2 => absurd ((lg_cmp_eq _ _).mpr (wr_eqI hz hv)) hz2)
