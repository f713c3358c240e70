theorem d_Mo_deviation_0 : decode c_Mo_deviation 0 = .ok (.aload_n 0, 1) := by decide +kernel
theorem d_Mo_deviation_1 : decode c_Mo_deviation 1 = .ok (.invokevirtual 100, 3) := by decide +kernel
theorem d_Mo_deviation_4 : decode c_Mo_deviation 4 = .ok (.istore_n 3, 1) := by decide +kernel
theorem d_Mo_deviation_5 : decode c_Mo_deviation 5 = .ok (.aload_n 0, 1) := by decide +kernel
theorem d_Mo_deviation_6 : decode c_Mo_deviation 6 = .ok (.iload_n 1, 1) := by decide +kernel
theorem d_Mo_deviation_7 : decode c_Mo_deviation 7 = .ok (.ifCond .lt 10, 3) := by decide +kernel
theorem d_Mo_deviation_10 : decode c_Mo_deviation 10 = .ok (.iload_n 1, 1) := by decide +kernel
theorem d_Mo_deviation_11 : decode c_Mo_deviation 11 = .ok (.iload_n 3, 1) := by decide +kernel
theorem d_Mo_deviation_12 : decode c_Mo_deviation 12 = .ok (.iconst 2, 1) := by decide +kernel
theorem d_Mo_deviation_13 : decode c_Mo_deviation 13 = .ok (.isub, 1) := by decide +kernel
theorem d_Mo_deviation_14 : decode c_Mo_deviation 14 = .ok (.if_icmp .le 7, 3) := by decide +kernel
theorem d_Mo_deviation_17 : decode c_Mo_deviation 17 = .ok (.iconst 1, 1) := by decide +kernel
theorem d_Mo_deviation_18 : decode c_Mo_deviation 18 = .ok (.goto 4, 3) := by decide +kernel
theorem d_Mo_deviation_21 : decode c_Mo_deviation 21 = .ok (.iconst 0, 1) := by decide +kernel
theorem d_Mo_deviation_22 : decode c_Mo_deviation 22 = .ok (.putfield 55, 3) := by decide +kernel
theorem d_Mo_deviation_25 : decode c_Mo_deviation 25 = .ok (.aload_n 0, 1) := by decide +kernel
theorem d_Mo_deviation_26 : decode c_Mo_deviation 26 = .ok (.getfield 55, 3) := by decide +kernel
theorem d_Mo_deviation_29 : decode c_Mo_deviation 29 = .ok (.ifCond .eq 5, 3) := by decide +kernel
theorem d_Mo_deviation_32 : decode c_Mo_deviation 32 = .ok (.lconst 0, 1) := by decide +kernel
theorem d_Mo_deviation_33 : decode c_Mo_deviation 33 = .ok (.lreturn, 1) := by decide +kernel
theorem d_Mo_deviation_34 : decode c_Mo_deviation 34 = .ok (.aload_n 0, 1) := by decide +kernel
theorem d_Mo_deviation_35 : decode c_Mo_deviation 35 = .ok (.invokevirtual 179, 3) := by decide +kernel
theorem d_Mo_deviation_38 : decode c_Mo_deviation 38 = .ok (.aload_n 0, 1) := by decide +kernel
theorem d_Mo_deviation_39 : decode c_Mo_deviation 39 = .ok (.iconst 0, 1) := by decide +kernel
theorem d_Mo_deviation_40 : decode c_Mo_deviation 40 = .ok (.iload_n 1, 1) := by decide +kernel
theorem d_Mo_deviation_41 : decode c_Mo_deviation 41 = .ok (.invokevirtual 140, 3) := by decide +kernel
theorem d_Mo_deviation_44 : decode c_Mo_deviation 44 = .ok (.istore 4, 2) := by decide +kernel
theorem d_Mo_deviation_46 : decode c_Mo_deviation 46 = .ok (.iconst 0, 1) := by decide +kernel
theorem d_Mo_deviation_47 : decode c_Mo_deviation 47 = .ok (.istore 5, 2) := by decide +kernel
theorem d_Mo_deviation_49 : decode c_Mo_deviation 49 = .ok (.iconst 0, 1) := by decide +kernel
theorem d_Mo_deviation_50 : decode c_Mo_deviation 50 = .ok (.istore 6, 2) := by decide +kernel
theorem d_Mo_deviation_52 : decode c_Mo_deviation 52 = .ok (.iload 6, 2) := by decide +kernel
theorem d_Mo_deviation_54 : decode c_Mo_deviation 54 = .ok (.iload_n 1, 1) := by decide +kernel
theorem d_Mo_deviation_55 : decode c_Mo_deviation 55 = .ok (.iadd, 1) := by decide +kernel
theorem d_Mo_deviation_56 : decode c_Mo_deviation 56 = .ok (.iconst 1, 1) := by decide +kernel
theorem d_Mo_deviation_57 : decode c_Mo_deviation 57 = .ok (.iadd, 1) := by decide +kernel
theorem d_Mo_deviation_58 : decode c_Mo_deviation 58 = .ok (.iload_n 3, 1) := by decide +kernel
theorem d_Mo_deviation_59 : decode c_Mo_deviation 59 = .ok (.if_icmp .ge 50, 3) := by decide +kernel
theorem d_Mo_deviation_62 : decode c_Mo_deviation 62 = .ok (.aload_n 0, 1) := by decide +kernel
theorem d_Mo_deviation_63 : decode c_Mo_deviation 63 = .ok (.iload 6, 2) := by decide +kernel
theorem d_Mo_deviation_65 : decode c_Mo_deviation 65 = .ok (.iload_n 1, 1) := by decide +kernel
theorem d_Mo_deviation_66 : decode c_Mo_deviation 66 = .ok (.iload_n 3, 1) := by decide +kernel
theorem d_Mo_deviation_67 : decode c_Mo_deviation 67 = .ok (.invokevirtual 131, 3) := by decide +kernel
theorem d_Mo_deviation_70 : decode c_Mo_deviation 70 = .ok (.ifCond .eq 33, 3) := by decide +kernel
theorem d_Mo_deviation_73 : decode c_Mo_deviation 73 = .ok (.iload 4, 2) := by decide +kernel
theorem d_Mo_deviation_75 : decode c_Mo_deviation 75 = .ok (.ifCond .eq 22, 3) := by decide +kernel
theorem d_Mo_deviation_78 : decode c_Mo_deviation 78 = .ok (.aload_n 0, 1) := by decide +kernel
theorem d_Mo_deviation_79 : decode c_Mo_deviation 79 = .ok (.getfield 52, 3) := by decide +kernel
theorem d_Mo_deviation_82 : decode c_Mo_deviation 82 = .ok (.bipush 6, 2) := by decide +kernel
theorem d_Mo_deviation_84 : decode c_Mo_deviation 84 = .ok (.iload 6, 2) := by decide +kernel
theorem d_Mo_deviation_86 : decode c_Mo_deviation 86 = .ok (.imul, 1) := by decide +kernel
theorem d_Mo_deviation_87 : decode c_Mo_deviation 87 = .ok (.iload_n 1, 1) := by decide +kernel
theorem d_Mo_deviation_88 : decode c_Mo_deviation 88 = .ok (.iadd, 1) := by decide +kernel
theorem d_Mo_deviation_89 : decode c_Mo_deviation 89 = .ok (.iaload, 1) := by decide +kernel
theorem d_Mo_deviation_90 : decode c_Mo_deviation 90 = .ok (.ifCond .eq 7, 3) := by decide +kernel
theorem d_Mo_deviation_93 : decode c_Mo_deviation 93 = .ok (.iconst 1, 1) := by decide +kernel
theorem d_Mo_deviation_94 : decode c_Mo_deviation 94 = .ok (.goto 4, 3) := by decide +kernel
theorem d_Mo_deviation_97 : decode c_Mo_deviation 97 = .ok (.iconst 0, 1) := by decide +kernel
theorem d_Mo_deviation_98 : decode c_Mo_deviation 98 = .ok (.istore 4, 2) := by decide +kernel
theorem d_Mo_deviation_100 : decode c_Mo_deviation 100 = .ok (.iinc 5 1, 3) := by decide +kernel
theorem d_Mo_deviation_103 : decode c_Mo_deviation 103 = .ok (.iinc 6 1, 3) := by decide +kernel
theorem d_Mo_deviation_106 : decode c_Mo_deviation 106 = .ok (.goto (-54), 3) := by decide +kernel
theorem d_Mo_deviation_109 : decode c_Mo_deviation 109 = .ok (.iload 4, 2) := by decide +kernel
theorem d_Mo_deviation_111 : decode c_Mo_deviation 111 = .ok (.ifCond .eq 9, 3) := by decide +kernel
theorem d_Mo_deviation_114 : decode c_Mo_deviation 114 = .ok (.iload 5, 2) := by decide +kernel
theorem d_Mo_deviation_116 : decode c_Mo_deviation 116 = .ok (.iconst 2, 1) := by decide +kernel
theorem d_Mo_deviation_117 : decode c_Mo_deviation 117 = .ok (.if_icmp .ge 10, 3) := by decide +kernel
theorem d_Mo_deviation_120 : decode c_Mo_deviation 120 = .ok (.aload_n 0, 1) := by decide +kernel
theorem d_Mo_deviation_121 : decode c_Mo_deviation 121 = .ok (.iconst 2, 1) := by decide +kernel
theorem d_Mo_deviation_122 : decode c_Mo_deviation 122 = .ok (.iload_n 2, 1) := by decide +kernel
theorem d_Mo_deviation_123 : decode c_Mo_deviation 123 = .ok (.invokevirtual 182, 3) := by decide +kernel
theorem d_Mo_deviation_126 : decode c_Mo_deviation 126 = .ok (.lreturn, 1) := by decide +kernel
theorem d_Mo_deviation_127 : decode c_Mo_deviation 127 = .ok (.lconst 0, 1) := by decide +kernel
theorem d_Mo_deviation_128 : decode c_Mo_deviation 128 = .ok (.lstore 6, 2) := by decide +kernel
theorem d_Mo_deviation_130 : decode c_Mo_deviation 130 = .ok (.lconst 1, 1) := by decide +kernel
theorem d_Mo_deviation_131 : decode c_Mo_deviation 131 = .ok (.lstore 8, 2) := by decide +kernel
theorem d_Mo_deviation_133 : decode c_Mo_deviation 133 = .ok (.iconst 0, 1) := by decide +kernel
theorem d_Mo_deviation_134 : decode c_Mo_deviation 134 = .ok (.istore 10, 2) := by decide +kernel
theorem d_Mo_deviation_136 : decode c_Mo_deviation 136 = .ok (.iload 10, 2) := by decide +kernel
theorem d_Mo_deviation_138 : decode c_Mo_deviation 138 = .ok (.iload_n 1, 1) := by decide +kernel
theorem d_Mo_deviation_139 : decode c_Mo_deviation 139 = .ok (.iadd, 1) := by decide +kernel
theorem d_Mo_deviation_140 : decode c_Mo_deviation 140 = .ok (.iconst 1, 1) := by decide +kernel
theorem d_Mo_deviation_141 : decode c_Mo_deviation 141 = .ok (.iadd, 1) := by decide +kernel
theorem d_Mo_deviation_142 : decode c_Mo_deviation 142 = .ok (.iload_n 3, 1) := by decide +kernel
theorem d_Mo_deviation_143 : decode c_Mo_deviation 143 = .ok (.if_icmp .ge 138, 3) := by decide +kernel
theorem d_Mo_deviation_146 : decode c_Mo_deviation 146 = .ok (.aload_n 0, 1) := by decide +kernel
theorem d_Mo_deviation_147 : decode c_Mo_deviation 147 = .ok (.iload 10, 2) := by decide +kernel
theorem d_Mo_deviation_149 : decode c_Mo_deviation 149 = .ok (.iload_n 1, 1) := by decide +kernel
theorem d_Mo_deviation_150 : decode c_Mo_deviation 150 = .ok (.iload_n 3, 1) := by decide +kernel
theorem d_Mo_deviation_151 : decode c_Mo_deviation 151 = .ok (.invokevirtual 131, 3) := by decide +kernel
theorem d_Mo_deviation_154 : decode c_Mo_deviation 154 = .ok (.ifCond .eq 121, 3) := by decide +kernel
theorem d_Mo_deviation_157 : decode c_Mo_deviation 157 = .ok (.aload_n 0, 1) := by decide +kernel
theorem d_Mo_deviation_158 : decode c_Mo_deviation 158 = .ok (.getfield 52, 3) := by decide +kernel
theorem d_Mo_deviation_161 : decode c_Mo_deviation 161 = .ok (.bipush 6, 2) := by decide +kernel
theorem d_Mo_deviation_163 : decode c_Mo_deviation 163 = .ok (.iload 10, 2) := by decide +kernel
theorem d_Mo_deviation_165 : decode c_Mo_deviation 165 = .ok (.imul, 1) := by decide +kernel
theorem d_Mo_deviation_166 : decode c_Mo_deviation 166 = .ok (.iload_n 1, 1) := by decide +kernel
theorem d_Mo_deviation_167 : decode c_Mo_deviation 167 = .ok (.iadd, 1) := by decide +kernel
theorem d_Mo_deviation_168 : decode c_Mo_deviation 168 = .ok (.iaload, 1) := by decide +kernel
theorem d_Mo_deviation_169 : decode c_Mo_deviation 169 = .ok (.istore 11, 2) := by decide +kernel
theorem d_Mo_deviation_171 : decode c_Mo_deviation 171 = .ok (.aload_n 0, 1) := by decide +kernel
theorem d_Mo_deviation_172 : decode c_Mo_deviation 172 = .ok (.aload_n 0, 1) := by decide +kernel
theorem d_Mo_deviation_173 : decode c_Mo_deviation 173 = .ok (.getfield 134, 3) := by decide +kernel
theorem d_Mo_deviation_176 : decode c_Mo_deviation 176 = .ok (.aload_n 0, 1) := by decide +kernel
theorem d_Mo_deviation_177 : decode c_Mo_deviation 177 = .ok (.getfield 137, 3) := by decide +kernel
theorem d_Mo_deviation_180 : decode c_Mo_deviation 180 = .ok (.invokevirtual 125, 3) := by decide +kernel
theorem d_Mo_deviation_183 : decode c_Mo_deviation 183 = .ok (.aload_n 0, 1) := by decide +kernel
theorem d_Mo_deviation_184 : decode c_Mo_deviation 184 = .ok (.iload 11, 2) := by decide +kernel
theorem d_Mo_deviation_186 : decode c_Mo_deviation 186 = .ok (.i2l, 1) := by decide +kernel
theorem d_Mo_deviation_187 : decode c_Mo_deviation 187 = .ok (.lconst 1, 1) := by decide +kernel
theorem d_Mo_deviation_188 : decode c_Mo_deviation 188 = .ok (.invokevirtual 143, 3) := by decide +kernel
theorem d_Mo_deviation_191 : decode c_Mo_deviation 191 = .ok (.aload_n 0, 1) := by decide +kernel
theorem d_Mo_deviation_192 : decode c_Mo_deviation 192 = .ok (.aload_n 0, 1) := by decide +kernel
theorem d_Mo_deviation_193 : decode c_Mo_deviation 193 = .ok (.getfield 114, 3) := by decide +kernel
theorem d_Mo_deviation_196 : decode c_Mo_deviation 196 = .ok (.lneg, 1) := by decide +kernel
theorem d_Mo_deviation_197 : decode c_Mo_deviation 197 = .ok (.putfield 114, 3) := by decide +kernel
theorem d_Mo_deviation_200 : decode c_Mo_deviation 200 = .ok (.aload_n 0, 1) := by decide +kernel
theorem d_Mo_deviation_201 : decode c_Mo_deviation 201 = .ok (.aload_n 0, 1) := by decide +kernel
theorem d_Mo_deviation_202 : decode c_Mo_deviation 202 = .ok (.getfield 52, 3) := by decide +kernel
theorem d_Mo_deviation_205 : decode c_Mo_deviation 205 = .ok (.bipush 6, 2) := by decide +kernel
theorem d_Mo_deviation_207 : decode c_Mo_deviation 207 = .ok (.iload 10, 2) := by decide +kernel
theorem d_Mo_deviation_209 : decode c_Mo_deviation 209 = .ok (.imul, 1) := by decide +kernel
theorem d_Mo_deviation_210 : decode c_Mo_deviation 210 = .ok (.iload_n 1, 1) := by decide +kernel
theorem d_Mo_deviation_211 : decode c_Mo_deviation 211 = .ok (.iadd, 1) := by decide +kernel
theorem d_Mo_deviation_212 : decode c_Mo_deviation 212 = .ok (.iconst 1, 1) := by decide +kernel
theorem d_Mo_deviation_213 : decode c_Mo_deviation 213 = .ok (.iadd, 1) := by decide +kernel
theorem d_Mo_deviation_214 : decode c_Mo_deviation 214 = .ok (.iaload, 1) := by decide +kernel
theorem d_Mo_deviation_215 : decode c_Mo_deviation 215 = .ok (.i2l, 1) := by decide +kernel
theorem d_Mo_deviation_216 : decode c_Mo_deviation 216 = .ok (.lconst 1, 1) := by decide +kernel
theorem d_Mo_deviation_217 : decode c_Mo_deviation 217 = .ok (.invokevirtual 173, 3) := by decide +kernel
theorem d_Mo_deviation_220 : decode c_Mo_deviation 220 = .ok (.aload_n 0, 1) := by decide +kernel
theorem d_Mo_deviation_221 : decode c_Mo_deviation 221 = .ok (.aload_n 0, 1) := by decide +kernel
theorem d_Mo_deviation_222 : decode c_Mo_deviation 222 = .ok (.getfield 114, 3) := by decide +kernel
theorem d_Mo_deviation_225 : decode c_Mo_deviation 225 = .ok (.aload_n 0, 1) := by decide +kernel
theorem d_Mo_deviation_226 : decode c_Mo_deviation 226 = .ok (.getfield 118, 3) := by decide +kernel
theorem d_Mo_deviation_229 : decode c_Mo_deviation 229 = .ok (.invokevirtual 143, 3) := by decide +kernel
theorem d_Mo_deviation_232 : decode c_Mo_deviation 232 = .ok (.aload_n 0, 1) := by decide +kernel
theorem d_Mo_deviation_233 : decode c_Mo_deviation 233 = .ok (.iload 11, 2) := by decide +kernel
theorem d_Mo_deviation_235 : decode c_Mo_deviation 235 = .ok (.ifCond .ge 9, 3) := by decide +kernel
theorem d_Mo_deviation_238 : decode c_Mo_deviation 238 = .ok (.ldc2_w 192, 3) := by decide +kernel
theorem d_Mo_deviation_241 : decode c_Mo_deviation 241 = .ok (.goto 4, 3) := by decide +kernel
theorem d_Mo_deviation_244 : decode c_Mo_deviation 244 = .ok (.lconst 1, 1) := by decide +kernel
theorem d_Mo_deviation_245 : decode c_Mo_deviation 245 = .ok (.aload_n 0, 1) := by decide +kernel
theorem d_Mo_deviation_246 : decode c_Mo_deviation 246 = .ok (.iload 11, 2) := by decide +kernel
theorem d_Mo_deviation_248 : decode c_Mo_deviation 248 = .ok (.i2l, 1) := by decide +kernel
theorem d_Mo_deviation_249 : decode c_Mo_deviation 249 = .ok (.invokevirtual 108, 3) := by decide +kernel
theorem d_Mo_deviation_252 : decode c_Mo_deviation 252 = .ok (.invokevirtual 143, 3) := by decide +kernel
theorem d_Mo_deviation_255 : decode c_Mo_deviation 255 = .ok (.aload_n 0, 1) := by decide +kernel
theorem d_Mo_deviation_256 : decode c_Mo_deviation 256 = .ok (.lload 6, 2) := by decide +kernel
theorem d_Mo_deviation_258 : decode c_Mo_deviation 258 = .ok (.lload 8, 2) := by decide +kernel
theorem d_Mo_deviation_260 : decode c_Mo_deviation 260 = .ok (.invokevirtual 173, 3) := by decide +kernel
theorem d_Mo_deviation_263 : decode c_Mo_deviation 263 = .ok (.aload_n 0, 1) := by decide +kernel
theorem d_Mo_deviation_264 : decode c_Mo_deviation 264 = .ok (.getfield 114, 3) := by decide +kernel
theorem d_Mo_deviation_267 : decode c_Mo_deviation 267 = .ok (.lstore 6, 2) := by decide +kernel
theorem d_Mo_deviation_269 : decode c_Mo_deviation 269 = .ok (.aload_n 0, 1) := by decide +kernel
theorem d_Mo_deviation_270 : decode c_Mo_deviation 270 = .ok (.getfield 118, 3) := by decide +kernel
theorem d_Mo_deviation_273 : decode c_Mo_deviation 273 = .ok (.lstore 8, 2) := by decide +kernel
theorem d_Mo_deviation_275 : decode c_Mo_deviation 275 = .ok (.iinc 10 1, 3) := by decide +kernel
theorem d_Mo_deviation_278 : decode c_Mo_deviation 278 = .ok (.goto (-142), 3) := by decide +kernel
theorem d_Mo_deviation_281 : decode c_Mo_deviation 281 = .ok (.aload_n 0, 1) := by decide +kernel
theorem d_Mo_deviation_282 : decode c_Mo_deviation 282 = .ok (.lconst 1, 1) := by decide +kernel
theorem d_Mo_deviation_283 : decode c_Mo_deviation 283 = .ok (.iload 5, 2) := by decide +kernel
theorem d_Mo_deviation_285 : decode c_Mo_deviation 285 = .ok (.i2l, 1) := by decide +kernel
theorem d_Mo_deviation_286 : decode c_Mo_deviation 286 = .ok (.lconst 1, 1) := by decide +kernel
theorem d_Mo_deviation_287 : decode c_Mo_deviation 287 = .ok (.lsub, 1) := by decide +kernel
theorem d_Mo_deviation_288 : decode c_Mo_deviation 288 = .ok (.invokevirtual 143, 3) := by decide +kernel
theorem d_Mo_deviation_291 : decode c_Mo_deviation 291 = .ok (.aload_n 0, 1) := by decide +kernel
theorem d_Mo_deviation_292 : decode c_Mo_deviation 292 = .ok (.aload_n 0, 1) := by decide +kernel
theorem d_Mo_deviation_293 : decode c_Mo_deviation 293 = .ok (.invokevirtual 156, 3) := by decide +kernel
theorem d_Mo_deviation_296 : decode c_Mo_deviation 296 = .ok (.iload_n 2, 1) := by decide +kernel
theorem d_Mo_deviation_297 : decode c_Mo_deviation 297 = .ok (.invokevirtual 182, 3) := by decide +kernel
theorem d_Mo_deviation_300 : decode c_Mo_deviation 300 = .ok (.lreturn, 1) := by decide +kernel
set_option maxHeartbeats 4000000 in
set_option maxRecDepth 100000 in
theorem s_Mo_deviation (l : Launch) (g : Gx) (ws0 : va_W) (sz : Nat) {s : MS} {a1 : Int32} {a2 : Int32} {res : (Int64 × MS)} (hR : ms_Rel g ws0 ws0 s) (h : fn_Mo_deviation s a1 a2 = some res) : ct_ML l y_Mo_deviation c_Mo_deviation 12 (some .long) rm_Mo_deviation g ws0 sz [.ref (g.2.1 35), .int a1, .int a2] res.1 (fun u => ms_Rel g ws0 u res.2) := by
  refine ct_startl (by decide +kernel) (Nat.le_of_ble_eq_true rfl) (fun p e sv m args below meth c ls Q A H locs C0 hret hl hw => ?_)
  have hx := C0.1
  have hb := C0.2.1
  have hown := C0.2.2.2.1
  have hts := C0.2.2.2.2.1
  have hl : lv_has ls 12 [(0, .ref (g.2.1 35)), (1, .int a1), (2, .int a2)] := hl
  have L136 : ∀ (n136 : Nat) (ws : va_W) (H : Heap) (locs : List Loc) (ls : Array Slot) (s : MS) (v3 : Int32) (v5 : Int32) (v6 : Int64) (v8 : Int64) (v10 : Int32), ct_Wd g A sv ws H locs → ms_Rel g ws0 ws s → lv_has ls 12 [(0, .ref (g.2.1 35)), (1, .int a1), (2, .int a2), (3, .int v3), (5, .int v5), (6, .long v6), (8, .long v8), (10, .int v10)] → bk_Mo_deviation_136 a1 a2 n136 s v3 v5 v6 v8 v10 = some res → W p l e rm_Mo_deviation sv m args below meth c H locs 0 0 Q (F0 m 136 ls []) := by
    intro n136
    induction n136 with
    | zero =>
      intro ws H locs ls s v3 v5 v6 v8 v10 hw hR hl h
      exact absurd h (by simp [bk_Mo_deviation_136])
    | succ n136 ih136 =>
      have J275 : ∀ (ws : va_W) (H : Heap) (locs : List Loc) (ls : Array Slot) (s : MS) (v3 : Int32) (v5 : Int32) (v6 : Int64) (v8 : Int64) (v10 : Int32), ct_Wd g A sv ws H locs → ms_Rel g ws0 ws s → lv_has ls 12 [(0, .ref (g.2.1 35)), (1, .int a1), (2, .int a2), (3, .int v3), (5, .int v5), (6, .long v6), (8, .long v8), (10, .int v10)] → bk_Mo_deviation_275 a1 a2 (bk_Mo_deviation_136 a1 a2 n136) s v3 v5 v6 v8 v10 = some res → W p l e rm_Mo_deviation sv m args below meth c H locs 0 0 Q (F0 m 275 ls []) := by
        intro ws H locs ls s v3 v5 v6 v8 v10 hw hR hl h
        unfold bk_Mo_deviation_275 at h
        refine lv_iinc (v := v10 + 1) (k := 7) (lv' := [(10, .int (v10 + 1)), (0, .ref (g.2.1 35)), (1, .int a1), (2, .int a2), (3, .int v3), (5, .int v5), (6, .long v6), (8, .long v8)]) hx hb d_Mo_deviation_275 hl rfl rfl (by decide) rfl (fun ls hl => ?_)
        refine lv_goto hx hb (tgt := 136) d_Mo_deviation_278 (by decide) ?_
        exact ih136 ws H locs ls s v3 v5 v6 v8 (v10 + 1) hw hR (lv_sub hl [1, 2, 3, 4, 5, 6, 7, 0] rfl) h
      have J245 : ∀ (ws : va_W) (H : Heap) (locs : List Loc) (ls : Array Slot) (s : MS) (t1 : Int64) (v3 : Int32) (v5 : Int32) (v6 : Int64) (v8 : Int64) (v10 : Int32) (v11 : Int32), ct_Wd g A sv ws H locs → ms_Rel g ws0 ws s → lv_has ls 12 [(0, .ref (g.2.1 35)), (1, .int a1), (2, .int a2), (3, .int v3), (5, .int v5), (6, .long v6), (8, .long v8), (10, .int v10), (11, .int v11)] → bk_Mo_deviation_245 a1 a2 (bk_Mo_deviation_136 a1 a2 n136) s t1 v3 v5 v6 v8 v10 v11 = some res → W p l e rm_Mo_deviation sv m args below meth c H locs 0 0 Q (F0 m 245 ls [.long t1, .ref (g.2.1 35)]) := by
        intro ws H locs ls s t1 v3 v5 v6 v8 v10 v11 hw hR hl h
        unfold bk_Mo_deviation_245 at h
        refine lv_aload_n hx hb d_Mo_deviation_245 rfl (lv_at hl 0 rfl) ?_
        refine lv_iload hx hb d_Mo_deviation_246 (lv_at hl 8 rfl) ?_
        refine lv_i2l hx hb d_Mo_deviation_248 rfl ?_
        obtain ⟨x1, ho, h⟩ := ct_ob_some h
        refine ct_callVl C0 hw hl.1 (q0 := 35) (hR.1 35 (by decide) (by decide)) rfl (ct_giV wd_890 wd_892 sel_Mo_size wd_7 wd_893) (fun sz => s_Mo_size l g ws sz ho) (nA := 1) (rm := rm_Mo_size) (by decide +kernel) rfl ⟨rfl, rfl⟩ (by decide) (by decide) (As := [.long v11.toInt64]) (rest := [.long t1, .ref (g.2.1 35)]) rfl (Nat.le_of_ble_eq_true rfl) d_Mo_deviation_249 (fun ws1 H locs hw hp => ?_)
        rw [hp] at hw
        clear hp
        obtain ⟨s2, ho, h⟩ := ct_ob_some h
        refine ct_callVv C0 hw hl.1 (q0 := 35) (hR.1 35 (by decide) (by decide)) rfl (ct_giV wd_918 wd_920 sel_Mo_times wd_7 wd_921) (fun sz => s_Mo_times l g ws sz hR.rf ho) (nA := 2) (rm := rm_Mo_times) (by decide +kernel) rfl ⟨rfl, rfl⟩ (by decide) (by decide) (As := [.long t1, .long x1]) (rest := []) rfl (Nat.le_of_ble_eq_true rfl) d_Mo_deviation_252 (fun ws1 H locs hw hp => ?_)
        have hR := hR.trans hp
        clear hp
        generalize ws1 = ws at hw hR
        refine lv_aload_n hx hb d_Mo_deviation_255 rfl (lv_at hl 0 rfl) ?_
        refine lv_lload hx hb d_Mo_deviation_256 (lv_at hl 5 rfl) ?_
        refine lv_lload hx hb d_Mo_deviation_258 (lv_at hl 6 rfl) ?_
        obtain ⟨s3, ho, h⟩ := ct_ob_some h
        refine ct_callVv C0 hw hl.1 (q0 := 35) (hR.1 35 (by decide) (by decide)) rfl (ct_giV wd_947 wd_949 sel_Mo_plus wd_7 wd_950) (fun sz => s_Mo_plus l g ws sz hR.rf ho) (nA := 2) (rm := rm_Mo_plus) (by decide +kernel) rfl ⟨rfl, rfl⟩ (by decide) (by decide) (As := [.long v6, .long v8]) (rest := []) rfl (Nat.le_of_ble_eq_true rfl) d_Mo_deviation_260 (fun ws1 H locs hw hp => ?_)
        have hR := hR.trans hp
        clear hp
        generalize ws1 = ws at hw hR
        refine lv_aload_n hx hb d_Mo_deviation_263 rfl (lv_at hl 0 rfl) ?_
        refine gf_Mo_114 C0 hw hR d_Mo_deviation_264 ?_
        refine lv_topl (fun x4 e9 => ?_)
        have h := ct_nm_at h e9
        clear e9
        refine lv_lstore (lv' := [(6, .long x4), (0, .ref (g.2.1 35)), (1, .int a1), (2, .int a2), (3, .int v3), (5, .int v5), (8, .long v8), (10, .int v10), (11, .int v11)]) hx hb d_Mo_deviation_267 hl (by decide) rfl (fun ls hl => ?_)
        refine lv_aload_n hx hb d_Mo_deviation_269 rfl (lv_at hl 1 rfl) ?_
        refine gf_Mo_118 C0 hw hR d_Mo_deviation_270 ?_
        refine lv_topl (fun x5 e9 => ?_)
        have h := ct_nm_at h e9
        clear e9
        refine lv_lstore (lv' := [(8, .long x5), (6, .long x4), (0, .ref (g.2.1 35)), (1, .int a1), (2, .int a2), (3, .int v3), (5, .int v5), (10, .int v10), (11, .int v11)]) hx hb d_Mo_deviation_273 hl (by decide) rfl (fun ls hl => ?_)
        exact J275 ws H locs ls s3 v3 v5 x4 x5 v10 hw hR (lv_sub hl [2, 3, 4, 5, 6, 1, 0, 7] rfl) h
      intro ws H locs ls s v3 v5 v6 v8 v10 hw hR hl h
      have h : bk_Mo_deviation_136_o a1 a2 (bk_Mo_deviation_136 a1 a2 n136) s v3 v5 v6 v8 v10 = some res := h
      unfold bk_Mo_deviation_136_o at h
      refine lv_iload hx hb d_Mo_deviation_136 (lv_at hl 7 rfl) ?_
      refine lv_iload_n hx hb d_Mo_deviation_138 rfl (lv_at hl 1 rfl) ?_
      refine lv_iadd hx hb d_Mo_deviation_139 ?_
      refine lv_iconst (v := 1) hx hb d_Mo_deviation_140 (by decide) ?_
      refine lv_iadd hx hb d_Mo_deviation_141 ?_
      refine lv_iload_n hx hb d_Mo_deviation_142 rfl (lv_at hl 3 rfl) ?_
      refine lv_icmp_ge hx hb (tgt := 281) d_Mo_deviation_143 (by decide) (fun hc9 => ?_) (fun hc9 => ?_)
      · rw [if_pos hc9] at h
        refine lv_aload_n hx hb d_Mo_deviation_281 rfl (lv_at hl 0 rfl) ?_
        refine lv_lconst (v := 1) hx hb d_Mo_deviation_282 (by decide) ?_
        refine lv_iload hx hb d_Mo_deviation_283 (lv_at hl 4 rfl) ?_
        refine lv_i2l hx hb d_Mo_deviation_285 rfl ?_
        refine lv_lconst (v := 1) hx hb d_Mo_deviation_286 (by decide) ?_
        refine lv_lsub hx hb d_Mo_deviation_287 ?_
        obtain ⟨s6, ho, h⟩ := ct_ob_some h
        refine ct_callVv C0 hw hl.1 (q0 := 35) (hR.1 35 (by decide) (by decide)) rfl (ct_giV wd_918 wd_920 sel_Mo_times wd_7 wd_921) (fun sz => s_Mo_times l g ws sz hR.rf ho) (nA := 2) (rm := rm_Mo_times) (by decide +kernel) rfl ⟨rfl, rfl⟩ (by decide) (by decide) (As := [.long 1, .long (v5.toInt64 - 1)]) (rest := []) rfl (Nat.le_of_ble_eq_true rfl) d_Mo_deviation_288 (fun ws1 H locs hw hp => ?_)
        have hR := hR.trans hp
        clear hp
        generalize ws1 = ws at hw hR
        refine lv_aload_n hx hb d_Mo_deviation_291 rfl (lv_at hl 0 rfl) ?_
        refine lv_aload_n hx hb d_Mo_deviation_292 rfl (lv_at hl 0 rfl) ?_
        obtain ⟨x7, ho, h⟩ := ct_ob_some h
        refine ct_callVi C0 hw hl.1 (q0 := 35) (hR.1 35 (by decide) (by decide)) rfl (ct_giV wd_927 wd_929 sel_Mo_answer wd_7 wd_930) (fun sz => s_Mo_answer l g ws sz hR.rf ho) (nA := 0) (rm := rm_Mo_answer) (by decide +kernel) rfl ⟨rfl, rfl⟩ (by decide) (by decide) (As := []) (rest := [.ref (g.2.1 35)]) rfl (Nat.le_of_ble_eq_true rfl) d_Mo_deviation_293 (fun ws1 H locs hw hp => ?_)
        rw [hp] at hw
        clear hp
        refine lv_iload_n hx hb d_Mo_deviation_296 rfl (lv_at hl 2 rfl) ?_
        obtain ⟨x8, s9, ho, h⟩ := ct_ob2_some h
        refine ct_callVl C0 hw hl.1 (q0 := 35) (hR.1 35 (by decide) (by decide)) rfl (ct_giV wd_898 wd_900 sel_Mo_told wd_7 wd_901) (fun sz => s_Mo_told l g ws sz hR.rf ho) (nA := 2) (rm := rm_Mo_told) (by decide +kernel) rfl ⟨rfl, rfl⟩ (by decide) (by decide) (As := [.int x7, .int a2]) (rest := []) rfl (Nat.le_of_ble_eq_true rfl) d_Mo_deviation_297 (fun ws1 H locs hw hp => ?_)
        have hR := hR.trans hp
        clear hp
        generalize ws1 = ws at hw hR
        obtain rfl := Option.some.inj h
        exact hret hw hR d_Mo_deviation_300
      · rw [if_neg hc9] at h
        refine lv_aload_n hx hb d_Mo_deviation_146 rfl (lv_at hl 0 rfl) ?_
        refine lv_iload hx hb d_Mo_deviation_147 (lv_at hl 7 rfl) ?_
        refine lv_iload_n hx hb d_Mo_deviation_149 rfl (lv_at hl 1 rfl) ?_
        refine lv_iload_n hx hb d_Mo_deviation_150 rfl (lv_at hl 3 rfl) ?_
        obtain ⟨x10, ho, h⟩ := ct_ob_some h
        refine ct_callVi C0 hw hl.1 (q0 := 35) (hR.1 35 (by decide) (by decide)) rfl (ct_giV wd_886 wd_888 sel_Mo_takes wd_7 wd_889) (fun sz => s_Mo_takes l g ws sz hR.rf ho) (nA := 3) (rm := rm_Mo_takes) (by decide +kernel) rfl ⟨rfl, rfl⟩ (by decide) (by decide) (As := [.int v10, .int a1, .int v3]) (rest := []) rfl (Nat.le_of_ble_eq_true rfl) d_Mo_deviation_151 (fun ws1 H locs hw hp => ?_)
        rw [hp] at hw
        clear hp
        refine lv_if_eq hx hb (tgt := 275) d_Mo_deviation_154 (by decide) (fun hc9 => ?_) (fun hc9 => ?_)
        · rw [if_pos hc9] at h
          exact J275 ws H locs ls s v3 v5 v6 v8 v10 hw hR (lv_sub hl [0, 1, 2, 3, 4, 5, 6, 7] rfl) h
        · rw [if_neg hc9] at h
          refine lv_aload_n hx hb d_Mo_deviation_157 rfl (lv_at hl 0 rfl) ?_
          refine gf_Mo_52 C0 hw hR d_Mo_deviation_158 ?_
          refine lv_bipush (v := 6) hx hb d_Mo_deviation_161 (by decide) ?_
          refine lv_iload hx hb d_Mo_deviation_163 (lv_at hl 7 rfl) ?_
          refine lv_imul hx hb d_Mo_deviation_165 ?_
          refine lv_iload_n hx hb d_Mo_deviation_166 rfl (lv_at hl 1 rfl) ?_
          refine lv_iadd hx hb d_Mo_deviation_167 ?_
          obtain ⟨hg168, h⟩ := ct_gd_some h
          refine ct_ldma8 C0 hw hR (ct_inR_vp hg168) d_Mo_deviation_168 ?_
          refine lv_topi (fun x11 e9 => ?_)
          have h := ct_nm_at h e9
          clear e9
          refine lv_istore (lv' := [(11, .int x11), (0, .ref (g.2.1 35)), (1, .int a1), (2, .int a2), (3, .int v3), (5, .int v5), (6, .long v6), (8, .long v8), (10, .int v10)]) hx hb d_Mo_deviation_169 hl (by decide) rfl (fun ls hl => ?_)
          refine lv_aload_n hx hb d_Mo_deviation_171 rfl (lv_at hl 1 rfl) ?_
          refine lv_aload_n hx hb d_Mo_deviation_172 rfl (lv_at hl 1 rfl) ?_
          refine gf_Mo_134 C0 hw hR d_Mo_deviation_173 ?_
          refine lv_aload_n hx hb d_Mo_deviation_176 rfl (lv_at hl 1 rfl) ?_
          refine gf_Mo_137 C0 hw hR d_Mo_deviation_177 ?_
          obtain ⟨s12, ho, h⟩ := ct_ob_some h
          refine ct_callVv C0 hw hl.1 (q0 := 35) (hR.1 35 (by decide) (by decide)) rfl (ct_giV wd_894 wd_896 sel_Mo_set wd_7 wd_897) (fun sz => s_Mo_set l g ws sz hR.rf ho) (nA := 2) (rm := rm_Mo_set) (by decide +kernel) rfl ⟨rfl, rfl⟩ (by decide) (by decide) (As := [.long (ms_L s 4), .long (ms_L s 5)]) (rest := []) rfl (Nat.le_of_ble_eq_true rfl) d_Mo_deviation_180 (fun ws1 H locs hw hp => ?_)
          have hR := hR.trans hp
          clear hp
          generalize ws1 = ws at hw hR
          refine lv_aload_n hx hb d_Mo_deviation_183 rfl (lv_at hl 1 rfl) ?_
          refine lv_iload hx hb d_Mo_deviation_184 (lv_at hl 0 rfl) ?_
          refine lv_i2l hx hb d_Mo_deviation_186 rfl ?_
          refine lv_lconst (v := 1) hx hb d_Mo_deviation_187 (by decide) ?_
          obtain ⟨s13, ho, h⟩ := ct_ob_some h
          refine ct_callVv C0 hw hl.1 (q0 := 35) (hR.1 35 (by decide) (by decide)) rfl (ct_giV wd_918 wd_920 sel_Mo_times wd_7 wd_921) (fun sz => s_Mo_times l g ws sz hR.rf ho) (nA := 2) (rm := rm_Mo_times) (by decide +kernel) rfl ⟨rfl, rfl⟩ (by decide) (by decide) (As := [.long x11.toInt64, .long 1]) (rest := []) rfl (Nat.le_of_ble_eq_true rfl) d_Mo_deviation_188 (fun ws1 H locs hw hp => ?_)
          have hR := hR.trans hp
          clear hp
          generalize ws1 = ws at hw hR
          refine lv_aload_n hx hb d_Mo_deviation_191 rfl (lv_at hl 1 rfl) ?_
          refine lv_aload_n hx hb d_Mo_deviation_192 rfl (lv_at hl 1 rfl) ?_
          refine gf_Mo_114 C0 hw hR d_Mo_deviation_193 ?_
          refine lv_lneg hx hb d_Mo_deviation_196 ?_
          refine pf_Mo_114 C0 hw hR d_Mo_deviation_197 (fun ws H locs hw hR => ?_)
          obtain ⟨s14, es9, h⟩ := ct_nm_ex h
          rw [← es9] at hR
          clear es9
          refine lv_aload_n hx hb d_Mo_deviation_200 rfl (lv_at hl 1 rfl) ?_
          refine lv_aload_n hx hb d_Mo_deviation_201 rfl (lv_at hl 1 rfl) ?_
          refine gf_Mo_52 C0 hw hR d_Mo_deviation_202 ?_
          refine lv_bipush (v := 6) hx hb d_Mo_deviation_205 (by decide) ?_
          refine lv_iload hx hb d_Mo_deviation_207 (lv_at hl 8 rfl) ?_
          refine lv_imul hx hb d_Mo_deviation_209 ?_
          refine lv_iload_n hx hb d_Mo_deviation_210 rfl (lv_at hl 2 rfl) ?_
          refine lv_iadd hx hb d_Mo_deviation_211 ?_
          refine lv_iconst (v := 1) hx hb d_Mo_deviation_212 (by decide) ?_
          refine lv_iadd hx hb d_Mo_deviation_213 ?_
          obtain ⟨hg214, h⟩ := ct_gd_some h
          refine ct_ldma8 C0 hw hR (ct_inR_vp hg214) d_Mo_deviation_214 ?_
          refine lv_i2l hx hb d_Mo_deviation_215 rfl ?_
          refine lv_lconst (v := 1) hx hb d_Mo_deviation_216 (by decide) ?_
          obtain ⟨s15, ho, h⟩ := ct_ob_some h
          refine ct_callVv C0 hw hl.1 (q0 := 35) (hR.1 35 (by decide) (by decide)) rfl (ct_giV wd_947 wd_949 sel_Mo_plus wd_7 wd_950) (fun sz => s_Mo_plus l g ws sz hR.rf ho) (nA := 2) (rm := rm_Mo_plus) (by decide +kernel) rfl ⟨rfl, rfl⟩ (by decide) (by decide) (As := [.long ((ms_A s14 8 (((6 * v10) + a1) + 1).toNatClampNeg).toInt64), .long 1]) (rest := []) rfl (Nat.le_of_ble_eq_true rfl) d_Mo_deviation_217 (fun ws1 H locs hw hp => ?_)
          have hR := hR.trans hp
          clear hp
          generalize ws1 = ws at hw hR
          refine lv_aload_n hx hb d_Mo_deviation_220 rfl (lv_at hl 1 rfl) ?_
          refine lv_aload_n hx hb d_Mo_deviation_221 rfl (lv_at hl 1 rfl) ?_
          refine gf_Mo_114 C0 hw hR d_Mo_deviation_222 ?_
          refine lv_aload_n hx hb d_Mo_deviation_225 rfl (lv_at hl 1 rfl) ?_
          refine gf_Mo_118 C0 hw hR d_Mo_deviation_226 ?_
          obtain ⟨s16, ho, h⟩ := ct_ob_some h
          refine ct_callVv C0 hw hl.1 (q0 := 35) (hR.1 35 (by decide) (by decide)) rfl (ct_giV wd_918 wd_920 sel_Mo_times wd_7 wd_921) (fun sz => s_Mo_times l g ws sz hR.rf ho) (nA := 2) (rm := rm_Mo_times) (by decide +kernel) rfl ⟨rfl, rfl⟩ (by decide) (by decide) (As := [.long (ms_L s15 0), .long (ms_L s15 1)]) (rest := []) rfl (Nat.le_of_ble_eq_true rfl) d_Mo_deviation_229 (fun ws1 H locs hw hp => ?_)
          have hR := hR.trans hp
          clear hp
          generalize ws1 = ws at hw hR
          refine lv_aload_n hx hb d_Mo_deviation_232 rfl (lv_at hl 1 rfl) ?_
          refine lv_iload hx hb d_Mo_deviation_233 (lv_at hl 0 rfl) ?_
          refine lv_if_ge hx hb (tgt := 244) d_Mo_deviation_235 (by decide) (fun hc9 => ?_) (fun hc9 => ?_)
          · rw [if_pos hc9] at h
            refine lv_lconst (v := 1) hx hb d_Mo_deviation_244 (by decide) ?_
            exact J245 ws H locs ls s16 1 v3 v5 v6 v8 v10 x11 hw hR (lv_sub hl [1, 2, 3, 4, 5, 6, 7, 8, 0] rfl) h
          · rw [if_neg hc9] at h
            refine lv_ldc2 (v := (-1)) hx hb hown (hts _ wd_976) d_Mo_deviation_238 ?_
            refine lv_goto hx hb (tgt := 245) d_Mo_deviation_241 (by decide) ?_
            exact J245 ws H locs ls s16 (-1) v3 v5 v6 v8 v10 x11 hw hR (lv_sub hl [1, 2, 3, 4, 5, 6, 7, 8, 0] rfl) h
  have J120 : ∀ (ws : va_W) (H : Heap) (locs : List Loc) (ls : Array Slot) (s : MS), ct_Wd g A sv ws H locs → ms_Rel g ws0 ws s → lv_has ls 12 [(0, .ref (g.2.1 35)), (2, .int a2)] → bk_Mo_deviation_120 a1 a2 s = some res → W p l e rm_Mo_deviation sv m args below meth c H locs 0 0 Q (F0 m 120 ls []) := by
    intro ws H locs ls s hw hR hl h
    unfold bk_Mo_deviation_120 at h
    refine lv_aload_n hx hb d_Mo_deviation_120 rfl (lv_at hl 0 rfl) ?_
    refine lv_iconst (v := 2) hx hb d_Mo_deviation_121 (by decide) ?_
    refine lv_iload_n hx hb d_Mo_deviation_122 rfl (lv_at hl 1 rfl) ?_
    obtain ⟨x17, s18, ho, h⟩ := ct_ob2_some h
    refine ct_callVl C0 hw hl.1 (q0 := 35) (hR.1 35 (by decide) (by decide)) rfl (ct_giV wd_898 wd_900 sel_Mo_told wd_7 wd_901) (fun sz => s_Mo_told l g ws sz hR.rf ho) (nA := 2) (rm := rm_Mo_told) (by decide +kernel) rfl ⟨rfl, rfl⟩ (by decide) (by decide) (As := [.int 2, .int a2]) (rest := []) rfl (Nat.le_of_ble_eq_true rfl) d_Mo_deviation_123 (fun ws1 H locs hw hp => ?_)
    have hR := hR.trans hp
    clear hp
    generalize ws1 = ws at hw hR
    obtain rfl := Option.some.inj h
    exact hret hw hR d_Mo_deviation_126
  have L52 : ∀ (n52 : Nat) (ws : va_W) (H : Heap) (locs : List Loc) (ls : Array Slot) (s : MS) (v3 : Int32) (v4 : Int32) (v5 : Int32) (v6 : Int32), ct_Wd g A sv ws H locs → ms_Rel g ws0 ws s → lv_has ls 12 [(0, .ref (g.2.1 35)), (1, .int a1), (2, .int a2), (3, .int v3), (4, .int v4), (5, .int v5), (6, .int v6)] → bk_Mo_deviation_52 a1 a2 n52 s v3 v4 v5 v6 = some res → W p l e rm_Mo_deviation sv m args below meth c H locs 0 0 Q (F0 m 52 ls []) := by
    intro n52
    induction n52 with
    | zero =>
      intro ws H locs ls s v3 v4 v5 v6 hw hR hl h
      exact absurd h (by simp [bk_Mo_deviation_52])
    | succ n52 ih52 =>
      have J103 : ∀ (ws : va_W) (H : Heap) (locs : List Loc) (ls : Array Slot) (s : MS) (v3 : Int32) (v4 : Int32) (v5 : Int32) (v6 : Int32), ct_Wd g A sv ws H locs → ms_Rel g ws0 ws s → lv_has ls 12 [(0, .ref (g.2.1 35)), (1, .int a1), (2, .int a2), (3, .int v3), (4, .int v4), (5, .int v5), (6, .int v6)] → bk_Mo_deviation_103 a1 a2 (bk_Mo_deviation_52 a1 a2 n52) s v3 v4 v5 v6 = some res → W p l e rm_Mo_deviation sv m args below meth c H locs 0 0 Q (F0 m 103 ls []) := by
        intro ws H locs ls s v3 v4 v5 v6 hw hR hl h
        unfold bk_Mo_deviation_103 at h
        refine lv_iinc (v := v6 + 1) (k := 6) (lv' := [(6, .int (v6 + 1)), (0, .ref (g.2.1 35)), (1, .int a1), (2, .int a2), (3, .int v3), (4, .int v4), (5, .int v5)]) hx hb d_Mo_deviation_103 hl rfl rfl (by decide) rfl (fun ls hl => ?_)
        refine lv_goto hx hb (tgt := 52) d_Mo_deviation_106 (by decide) ?_
        exact ih52 ws H locs ls s v3 v4 v5 (v6 + 1) hw hR (lv_sub hl [1, 2, 3, 4, 5, 6, 0] rfl) h
      intro ws H locs ls s v3 v4 v5 v6 hw hR hl h
      have h : bk_Mo_deviation_52_o a1 a2 (bk_Mo_deviation_52 a1 a2 n52) s v3 v4 v5 v6 = some res := h
      unfold bk_Mo_deviation_52_o at h
      refine lv_iload hx hb d_Mo_deviation_52 (lv_at hl 6 rfl) ?_
      refine lv_iload_n hx hb d_Mo_deviation_54 rfl (lv_at hl 1 rfl) ?_
      refine lv_iadd hx hb d_Mo_deviation_55 ?_
      refine lv_iconst (v := 1) hx hb d_Mo_deviation_56 (by decide) ?_
      refine lv_iadd hx hb d_Mo_deviation_57 ?_
      refine lv_iload_n hx hb d_Mo_deviation_58 rfl (lv_at hl 3 rfl) ?_
      refine lv_icmp_ge hx hb (tgt := 109) d_Mo_deviation_59 (by decide) (fun hc9 => ?_) (fun hc9 => ?_)
      · rw [if_pos hc9] at h
        refine lv_iload hx hb d_Mo_deviation_109 (lv_at hl 4 rfl) ?_
        refine lv_if_eq hx hb (tgt := 120) d_Mo_deviation_111 (by decide) (fun hc9 => ?_) (fun hc9 => ?_)
        · rw [if_pos hc9] at h
          exact J120 ws H locs ls s hw hR (lv_sub hl [0, 2] rfl) h
        · rw [if_neg hc9] at h
          refine lv_iload hx hb d_Mo_deviation_114 (lv_at hl 5 rfl) ?_
          refine lv_iconst (v := 2) hx hb d_Mo_deviation_116 (by decide) ?_
          refine lv_icmp_ge hx hb (tgt := 127) d_Mo_deviation_117 (by decide) (fun hc9 => ?_) (fun hc9 => ?_)
          · rw [if_pos hc9] at h
            refine lv_lconst (v := 0) hx hb d_Mo_deviation_127 (by decide) ?_
            refine lv_lstore (lv' := [(6, .long 0), (0, .ref (g.2.1 35)), (1, .int a1), (2, .int a2), (3, .int v3), (4, .int v4), (5, .int v5)]) hx hb d_Mo_deviation_128 hl (by decide) rfl (fun ls hl => ?_)
            refine lv_lconst (v := 1) hx hb d_Mo_deviation_130 (by decide) ?_
            refine lv_lstore (lv' := [(8, .long 1), (6, .long 0), (0, .ref (g.2.1 35)), (1, .int a1), (2, .int a2), (3, .int v3), (4, .int v4), (5, .int v5)]) hx hb d_Mo_deviation_131 hl (by decide) rfl (fun ls hl => ?_)
            refine lv_iconst (v := 0) hx hb d_Mo_deviation_133 (by decide) ?_
            refine lv_istore (lv' := [(10, .int 0), (8, .long 1), (6, .long 0), (0, .ref (g.2.1 35)), (1, .int a1), (2, .int a2), (3, .int v3), (4, .int v4), (5, .int v5)]) hx hb d_Mo_deviation_134 hl (by decide) rfl (fun ls hl => ?_)
            exact L136 200 ws H locs ls s v3 v5 0 1 0 hw hR (lv_sub hl [3, 4, 5, 6, 8, 2, 1, 0] rfl) h
          · rw [if_neg hc9] at h
            exact J120 ws H locs ls s hw hR (lv_sub hl [0, 2] rfl) h
      · rw [if_neg hc9] at h
        refine lv_aload_n hx hb d_Mo_deviation_62 rfl (lv_at hl 0 rfl) ?_
        refine lv_iload hx hb d_Mo_deviation_63 (lv_at hl 6 rfl) ?_
        refine lv_iload_n hx hb d_Mo_deviation_65 rfl (lv_at hl 1 rfl) ?_
        refine lv_iload_n hx hb d_Mo_deviation_66 rfl (lv_at hl 3 rfl) ?_
        obtain ⟨x19, ho, h⟩ := ct_ob_some h
        refine ct_callVi C0 hw hl.1 (q0 := 35) (hR.1 35 (by decide) (by decide)) rfl (ct_giV wd_886 wd_888 sel_Mo_takes wd_7 wd_889) (fun sz => s_Mo_takes l g ws sz hR.rf ho) (nA := 3) (rm := rm_Mo_takes) (by decide +kernel) rfl ⟨rfl, rfl⟩ (by decide) (by decide) (As := [.int v6, .int a1, .int v3]) (rest := []) rfl (Nat.le_of_ble_eq_true rfl) d_Mo_deviation_67 (fun ws1 H locs hw hp => ?_)
        rw [hp] at hw
        clear hp
        refine lv_if_eq hx hb (tgt := 103) d_Mo_deviation_70 (by decide) (fun hc9 => ?_) (fun hc9 => ?_)
        · rw [if_pos hc9] at h
          exact J103 ws H locs ls s v3 v4 v5 v6 hw hR (lv_sub hl [0, 1, 2, 3, 4, 5, 6] rfl) h
        · rw [if_neg hc9] at h
          refine lv_iload hx hb d_Mo_deviation_73 (lv_at hl 4 rfl) ?_
          refine lv_if_eq hx hb (tgt := 97) d_Mo_deviation_75 (by decide) (fun hc9 => ?_) (fun hc9 => ?_)
          · rw [if_pos hc9] at h
            refine lv_iconst (v := 0) hx hb d_Mo_deviation_97 (by decide) ?_
            refine lv_istore (lv' := [(4, .int 0), (0, .ref (g.2.1 35)), (1, .int a1), (2, .int a2), (3, .int v3), (5, .int v5), (6, .int v6)]) hx hb d_Mo_deviation_98 hl (by decide) rfl (fun ls hl => ?_)
            refine lv_iinc (v := v5 + 1) (k := 5) (lv' := [(5, .int (v5 + 1)), (4, .int 0), (0, .ref (g.2.1 35)), (1, .int a1), (2, .int a2), (3, .int v3), (6, .int v6)]) hx hb d_Mo_deviation_100 hl rfl rfl (by decide) rfl (fun ls hl => ?_)
            exact J103 ws H locs ls s v3 0 (v5 + 1) v6 hw hR (lv_sub hl [2, 3, 4, 5, 1, 0, 6] rfl) h
          · rw [if_neg hc9] at h
            refine lv_aload_n hx hb d_Mo_deviation_78 rfl (lv_at hl 0 rfl) ?_
            refine gf_Mo_52 C0 hw hR d_Mo_deviation_79 ?_
            refine lv_bipush (v := 6) hx hb d_Mo_deviation_82 (by decide) ?_
            refine lv_iload hx hb d_Mo_deviation_84 (lv_at hl 6 rfl) ?_
            refine lv_imul hx hb d_Mo_deviation_86 ?_
            refine lv_iload_n hx hb d_Mo_deviation_87 rfl (lv_at hl 1 rfl) ?_
            refine lv_iadd hx hb d_Mo_deviation_88 ?_
            obtain ⟨hg89, h⟩ := ct_gd_some h
            refine ct_ldma8 C0 hw hR (ct_inR_vp hg89) d_Mo_deviation_89 ?_
            refine lv_if_eq hx hb (tgt := 97) d_Mo_deviation_90 (by decide) (fun hc9 => ?_) (fun hc9 => ?_)
            · rw [if_pos hc9] at h
              refine lv_iconst (v := 0) hx hb d_Mo_deviation_97 (by decide) ?_
              refine lv_istore (lv' := [(4, .int 0), (0, .ref (g.2.1 35)), (1, .int a1), (2, .int a2), (3, .int v3), (5, .int v5), (6, .int v6)]) hx hb d_Mo_deviation_98 hl (by decide) rfl (fun ls hl => ?_)
              refine lv_iinc (v := v5 + 1) (k := 5) (lv' := [(5, .int (v5 + 1)), (4, .int 0), (0, .ref (g.2.1 35)), (1, .int a1), (2, .int a2), (3, .int v3), (6, .int v6)]) hx hb d_Mo_deviation_100 hl rfl rfl (by decide) rfl (fun ls hl => ?_)
              exact J103 ws H locs ls s v3 0 (v5 + 1) v6 hw hR (lv_sub hl [2, 3, 4, 5, 1, 0, 6] rfl) h
            · rw [if_neg hc9] at h
              refine lv_iconst (v := 1) hx hb d_Mo_deviation_93 (by decide) ?_
              refine lv_goto hx hb (tgt := 98) d_Mo_deviation_94 (by decide) ?_
              refine lv_istore (lv' := [(4, .int 1), (0, .ref (g.2.1 35)), (1, .int a1), (2, .int a2), (3, .int v3), (5, .int v5), (6, .int v6)]) hx hb d_Mo_deviation_98 hl (by decide) rfl (fun ls hl => ?_)
              refine lv_iinc (v := v5 + 1) (k := 5) (lv' := [(5, .int (v5 + 1)), (4, .int 1), (0, .ref (g.2.1 35)), (1, .int a1), (2, .int a2), (3, .int v3), (6, .int v6)]) hx hb d_Mo_deviation_100 hl rfl rfl (by decide) rfl (fun ls hl => ?_)
              exact J103 ws H locs ls s v3 1 (v5 + 1) v6 hw hR (lv_sub hl [2, 3, 4, 5, 1, 0, 6] rfl) h
  have J22 : ∀ (ws : va_W) (H : Heap) (locs : List Loc) (ls : Array Slot) (s : MS) (t1 : Int32) (v3 : Int32), ct_Wd g A sv ws H locs → ms_Rel g ws0 ws s → lv_has ls 12 [(0, .ref (g.2.1 35)), (1, .int a1), (2, .int a2), (3, .int v3)] → bk_Mo_deviation_22 a1 a2 s t1 v3 = some res → W p l e rm_Mo_deviation sv m args below meth c H locs 0 0 Q (F0 m 22 ls [.int t1, .ref (g.2.1 35)]) := by
    intro ws H locs ls s t1 v3 hw hR hl h
    unfold bk_Mo_deviation_22 at h
    refine pf_Mo_55 C0 hw hR d_Mo_deviation_22 (fun ws H locs hw hR => ?_)
    obtain ⟨s20, es9, h⟩ := ct_nm_ex h
    rw [← es9] at hR
    clear es9
    refine lv_aload_n hx hb d_Mo_deviation_25 rfl (lv_at hl 0 rfl) ?_
    refine gf_Mo_55 C0 hw hR d_Mo_deviation_26 ?_
    refine lv_if_eq hx hb (tgt := 34) d_Mo_deviation_29 (by decide) (fun hc9 => ?_) (fun hc9 => ?_)
    · rw [if_pos hc9] at h
      refine lv_aload_n hx hb d_Mo_deviation_34 rfl (lv_at hl 0 rfl) ?_
      obtain ⟨s21, ho, h⟩ := ct_ob_some h
      refine ct_callVv C0 hw hl.1 (q0 := 35) (hR.1 35 (by decide) (by decide)) rfl (ct_giV wd_878 wd_880 sel_Mo_look wd_7 wd_881) (fun sz => s_Mo_look l g ws sz hR.rf ho) (nA := 0) (rm := rm_Mo_look) (by decide +kernel) rfl ⟨rfl, rfl⟩ (by decide) (by decide) (As := []) (rest := []) rfl (Nat.le_of_ble_eq_true rfl) d_Mo_deviation_35 (fun ws1 H locs hw hp => ?_)
      have hR := hR.trans hp
      clear hp
      generalize ws1 = ws at hw hR
      refine lv_aload_n hx hb d_Mo_deviation_38 rfl (lv_at hl 0 rfl) ?_
      refine lv_iconst (v := 0) hx hb d_Mo_deviation_39 (by decide) ?_
      refine lv_iload_n hx hb d_Mo_deviation_40 rfl (lv_at hl 1 rfl) ?_
      obtain ⟨x22, s23, ho, h⟩ := ct_ob2_some h
      refine ct_callVi C0 hw hl.1 (q0 := 35) (hR.1 35 (by decide) (by decide)) rfl (ct_giV wd_882 wd_884 sel_Mo_find wd_7 wd_885) (fun sz => s_Mo_find l g ws sz hR.rf ho) (nA := 2) (rm := rm_Mo_find) (by decide +kernel) rfl ⟨rfl, rfl⟩ (by decide) (by decide) (As := [.int 0, .int a1]) (rest := []) rfl (Nat.le_of_ble_eq_true rfl) d_Mo_deviation_41 (fun ws1 H locs hw hp => ?_)
      have hR := hR.trans hp
      clear hp
      generalize ws1 = ws at hw hR
      refine lv_istore (lv' := [(4, .int x22), (0, .ref (g.2.1 35)), (1, .int a1), (2, .int a2), (3, .int v3)]) hx hb d_Mo_deviation_44 hl (by decide) rfl (fun ls hl => ?_)
      refine lv_iconst (v := 0) hx hb d_Mo_deviation_46 (by decide) ?_
      refine lv_istore (lv' := [(5, .int 0), (4, .int x22), (0, .ref (g.2.1 35)), (1, .int a1), (2, .int a2), (3, .int v3)]) hx hb d_Mo_deviation_47 hl (by decide) rfl (fun ls hl => ?_)
      refine lv_iconst (v := 0) hx hb d_Mo_deviation_49 (by decide) ?_
      refine lv_istore (lv' := [(6, .int 0), (5, .int 0), (4, .int x22), (0, .ref (g.2.1 35)), (1, .int a1), (2, .int a2), (3, .int v3)]) hx hb d_Mo_deviation_50 hl (by decide) rfl (fun ls hl => ?_)
      exact L52 200 ws H locs ls s23 v3 x22 0 0 hw hR (lv_sub hl [3, 4, 5, 6, 2, 1, 0] rfl) h
    · rw [if_neg hc9] at h
      refine lv_lconst (v := 0) hx hb d_Mo_deviation_32 (by decide) ?_
      obtain rfl := Option.some.inj h
      exact hret hw hR d_Mo_deviation_33
  unfold fn_Mo_deviation at h
  obtain ⟨ws, hwe⟩ : ∃ z : va_W, z = ws0 := ⟨_, rfl⟩
  rw [← hwe] at hw
  have hR : ms_Rel g ws0 ws s := by rw [hwe]; exact hR
  clear hwe
  refine lv_aload_n hx hb d_Mo_deviation_0 rfl (lv_at hl 0 rfl) ?_
  obtain ⟨x24, ho, h⟩ := ct_ob_some h
  refine ct_callVi C0 hw hl.1 (q0 := 35) (hR.1 35 (by decide) (by decide)) rfl (ct_giV wd_846 wd_848 sel_Mo_left wd_7 wd_849) (fun sz => s_Mo_left l g ws sz hR.rf ho) (nA := 0) (rm := rm_Mo_left) (by decide +kernel) rfl ⟨rfl, rfl⟩ (by decide) (by decide) (As := []) (rest := []) rfl (Nat.le_of_ble_eq_true rfl) d_Mo_deviation_1 (fun ws1 H locs hw hp => ?_)
  rw [hp] at hw
  clear hp
  refine lv_istore_n (lv' := [(3, .int x24), (0, .ref (g.2.1 35)), (1, .int a1), (2, .int a2)]) hx hb d_Mo_deviation_4 rfl hl (by decide) rfl (fun ls hl => ?_)
  refine lv_aload_n hx hb d_Mo_deviation_5 rfl (lv_at hl 1 rfl) ?_
  refine lv_iload_n hx hb d_Mo_deviation_6 rfl (lv_at hl 2 rfl) ?_
  refine lv_if_lt hx hb (tgt := 17) d_Mo_deviation_7 (by decide) (fun hc9 => ?_) (fun hc9 => ?_)
  · rw [if_pos hc9] at h
    refine lv_iconst (v := 1) hx hb d_Mo_deviation_17 (by decide) ?_
    refine lv_goto hx hb (tgt := 22) d_Mo_deviation_18 (by decide) ?_
    exact J22 ws H locs ls s 1 x24 hw hR (lv_sub hl [1, 2, 3, 0] rfl) h
  · rw [if_neg hc9] at h
    refine lv_iload_n hx hb d_Mo_deviation_10 rfl (lv_at hl 2 rfl) ?_
    refine lv_iload_n hx hb d_Mo_deviation_11 rfl (lv_at hl 0 rfl) ?_
    refine lv_iconst (v := 2) hx hb d_Mo_deviation_12 (by decide) ?_
    refine lv_isub hx hb d_Mo_deviation_13 ?_
    refine lv_icmp_le hx hb (tgt := 21) d_Mo_deviation_14 (by decide) (fun hc9 => ?_) (fun hc9 => ?_)
    · rw [if_pos hc9] at h
      refine lv_iconst (v := 0) hx hb d_Mo_deviation_21 (by decide) ?_
      exact J22 ws H locs ls s 0 x24 hw hR (lv_sub hl [1, 2, 3, 0] rfl) h
    · rw [if_neg hc9] at h
      refine lv_iconst (v := 1) hx hb d_Mo_deviation_17 (by decide) ?_
      refine lv_goto hx hb (tgt := 22) d_Mo_deviation_18 (by decide) ?_
      exact J22 ws H locs ls s 1 x24 hw hR (lv_sub hl [1, 2, 3, 0] rfl) h

theorem d_Mo_error_0 : decode c_Mo_error 0 = .ok (.aload_n 0, 1) := by decide +kernel
theorem d_Mo_error_1 : decode c_Mo_error 1 = .ok (.invokevirtual 100, 3) := by decide +kernel
theorem d_Mo_error_4 : decode c_Mo_error 4 = .ok (.istore 4, 2) := by decide +kernel
theorem d_Mo_error_6 : decode c_Mo_error 6 = .ok (.aload_n 0, 1) := by decide +kernel
theorem d_Mo_error_7 : decode c_Mo_error 7 = .ok (.iload_n 1, 1) := by decide +kernel
theorem d_Mo_error_8 : decode c_Mo_error 8 = .ok (.ifCond .lt 22, 3) := by decide +kernel
theorem d_Mo_error_11 : decode c_Mo_error 11 = .ok (.iload_n 1, 1) := by decide +kernel
theorem d_Mo_error_12 : decode c_Mo_error 12 = .ok (.iconst 1, 1) := by decide +kernel
theorem d_Mo_error_13 : decode c_Mo_error 13 = .ok (.if_icmp .gt 17, 3) := by decide +kernel
theorem d_Mo_error_16 : decode c_Mo_error 16 = .ok (.iload_n 2, 1) := by decide +kernel
theorem d_Mo_error_17 : decode c_Mo_error 17 = .ok (.aload_n 0, 1) := by decide +kernel
theorem d_Mo_error_18 : decode c_Mo_error 18 = .ok (.getfield 87, 3) := by decide +kernel
theorem d_Mo_error_21 : decode c_Mo_error 21 = .ok (.if_icmp .lt 9, 3) := by decide +kernel
theorem d_Mo_error_24 : decode c_Mo_error 24 = .ok (.iload_n 2, 1) := by decide +kernel
theorem d_Mo_error_25 : decode c_Mo_error 25 = .ok (.iload 4, 2) := by decide +kernel
theorem d_Mo_error_27 : decode c_Mo_error 27 = .ok (.if_icmp .lt 7, 3) := by decide +kernel
theorem d_Mo_error_30 : decode c_Mo_error 30 = .ok (.iconst 1, 1) := by decide +kernel
theorem d_Mo_error_31 : decode c_Mo_error 31 = .ok (.goto 4, 3) := by decide +kernel
theorem d_Mo_error_34 : decode c_Mo_error 34 = .ok (.iconst 0, 1) := by decide +kernel
theorem d_Mo_error_35 : decode c_Mo_error 35 = .ok (.putfield 55, 3) := by decide +kernel
theorem d_Mo_error_38 : decode c_Mo_error 38 = .ok (.aload_n 0, 1) := by decide +kernel
theorem d_Mo_error_39 : decode c_Mo_error 39 = .ok (.getfield 55, 3) := by decide +kernel
theorem d_Mo_error_42 : decode c_Mo_error 42 = .ok (.ifCond .eq 5, 3) := by decide +kernel
theorem d_Mo_error_45 : decode c_Mo_error 45 = .ok (.lconst 0, 1) := by decide +kernel
theorem d_Mo_error_46 : decode c_Mo_error 46 = .ok (.lreturn, 1) := by decide +kernel
theorem d_Mo_error_47 : decode c_Mo_error 47 = .ok (.aload_n 0, 1) := by decide +kernel
theorem d_Mo_error_48 : decode c_Mo_error 48 = .ok (.invokevirtual 179, 3) := by decide +kernel
theorem d_Mo_error_51 : decode c_Mo_error 51 = .ok (.iload 4, 2) := by decide +kernel
theorem d_Mo_error_53 : decode c_Mo_error 53 = .ok (.iconst 1, 1) := by decide +kernel
theorem d_Mo_error_54 : decode c_Mo_error 54 = .ok (.isub, 1) := by decide +kernel
theorem d_Mo_error_55 : decode c_Mo_error 55 = .ok (.iload_n 2, 1) := by decide +kernel
theorem d_Mo_error_56 : decode c_Mo_error 56 = .ok (.isub, 1) := by decide +kernel
theorem d_Mo_error_57 : decode c_Mo_error 57 = .ok (.istore 5, 2) := by decide +kernel
theorem d_Mo_error_59 : decode c_Mo_error 59 = .ok (.aload_n 0, 1) := by decide +kernel
theorem d_Mo_error_60 : decode c_Mo_error 60 = .ok (.getfield 43, 3) := by decide +kernel
theorem d_Mo_error_63 : decode c_Mo_error 63 = .ok (.iconst 2, 1) := by decide +kernel
theorem d_Mo_error_64 : decode c_Mo_error 64 = .ok (.isub, 1) := by decide +kernel
theorem d_Mo_error_65 : decode c_Mo_error 65 = .ok (.iload_n 2, 1) := by decide +kernel
theorem d_Mo_error_66 : decode c_Mo_error 66 = .ok (.isub, 1) := by decide +kernel
theorem d_Mo_error_67 : decode c_Mo_error 67 = .ok (.istore 6, 2) := by decide +kernel
theorem d_Mo_error_69 : decode c_Mo_error 69 = .ok (.aload_n 0, 1) := by decide +kernel
theorem d_Mo_error_70 : decode c_Mo_error 70 = .ok (.iload_n 1, 1) := by decide +kernel
theorem d_Mo_error_71 : decode c_Mo_error 71 = .ok (.iload 5, 2) := by decide +kernel
theorem d_Mo_error_73 : decode c_Mo_error 73 = .ok (.iload 6, 2) := by decide +kernel
theorem d_Mo_error_75 : decode c_Mo_error 75 = .ok (.invokevirtual 159, 3) := by decide +kernel
theorem d_Mo_error_78 : decode c_Mo_error 78 = .ok (.ifCond .ne 10, 3) := by decide +kernel
theorem d_Mo_error_81 : decode c_Mo_error 81 = .ok (.aload_n 0, 1) := by decide +kernel
theorem d_Mo_error_82 : decode c_Mo_error 82 = .ok (.iconst 2, 1) := by decide +kernel
theorem d_Mo_error_83 : decode c_Mo_error 83 = .ok (.iload_n 3, 1) := by decide +kernel
theorem d_Mo_error_84 : decode c_Mo_error 84 = .ok (.invokevirtual 182, 3) := by decide +kernel
theorem d_Mo_error_87 : decode c_Mo_error 87 = .ok (.lreturn, 1) := by decide +kernel
theorem d_Mo_error_88 : decode c_Mo_error 88 = .ok (.aload_n 0, 1) := by decide +kernel
theorem d_Mo_error_89 : decode c_Mo_error 89 = .ok (.iload_n 1, 1) := by decide +kernel
theorem d_Mo_error_90 : decode c_Mo_error 90 = .ok (.iload 5, 2) := by decide +kernel
theorem d_Mo_error_92 : decode c_Mo_error 92 = .ok (.iload 6, 2) := by decide +kernel
theorem d_Mo_error_94 : decode c_Mo_error 94 = .ok (.invokevirtual 162, 3) := by decide +kernel
theorem d_Mo_error_97 : decode c_Mo_error 97 = .ok (.aload_n 0, 1) := by decide +kernel
theorem d_Mo_error_98 : decode c_Mo_error 98 = .ok (.aload_n 0, 1) := by decide +kernel
theorem d_Mo_error_99 : decode c_Mo_error 99 = .ok (.iload_n 2, 1) := by decide +kernel
theorem d_Mo_error_100 : decode c_Mo_error 100 = .ok (.invokevirtual 166, 3) := by decide +kernel
theorem d_Mo_error_103 : decode c_Mo_error 103 = .ok (.i2l, 1) := by decide +kernel
theorem d_Mo_error_104 : decode c_Mo_error 104 = .ok (.lconst 1, 1) := by decide +kernel
theorem d_Mo_error_105 : decode c_Mo_error 105 = .ok (.invokevirtual 143, 3) := by decide +kernel
theorem d_Mo_error_108 : decode c_Mo_error 108 = .ok (.aload_n 0, 1) := by decide +kernel
theorem d_Mo_error_109 : decode c_Mo_error 109 = .ok (.aload_n 0, 1) := by decide +kernel
theorem d_Mo_error_110 : decode c_Mo_error 110 = .ok (.getfield 52, 3) := by decide +kernel
theorem d_Mo_error_113 : decode c_Mo_error 113 = .ok (.bipush 6, 2) := by decide +kernel
theorem d_Mo_error_115 : decode c_Mo_error 115 = .ok (.iload_n 2, 1) := by decide +kernel
theorem d_Mo_error_116 : decode c_Mo_error 116 = .ok (.imul, 1) := by decide +kernel
theorem d_Mo_error_117 : decode c_Mo_error 117 = .ok (.aload_n 0, 1) := by decide +kernel
theorem d_Mo_error_118 : decode c_Mo_error 118 = .ok (.getfield 43, 3) := by decide +kernel
theorem d_Mo_error_121 : decode c_Mo_error 121 = .ok (.iadd, 1) := by decide +kernel
theorem d_Mo_error_122 : decode c_Mo_error 122 = .ok (.iconst 1, 1) := by decide +kernel
theorem d_Mo_error_123 : decode c_Mo_error 123 = .ok (.isub, 1) := by decide +kernel
theorem d_Mo_error_124 : decode c_Mo_error 124 = .ok (.iload_n 2, 1) := by decide +kernel
theorem d_Mo_error_125 : decode c_Mo_error 125 = .ok (.isub, 1) := by decide +kernel
theorem d_Mo_error_126 : decode c_Mo_error 126 = .ok (.iaload, 1) := by decide +kernel
theorem d_Mo_error_127 : decode c_Mo_error 127 = .ok (.ineg, 1) := by decide +kernel
theorem d_Mo_error_128 : decode c_Mo_error 128 = .ok (.i2l, 1) := by decide +kernel
theorem d_Mo_error_129 : decode c_Mo_error 129 = .ok (.lconst 1, 1) := by decide +kernel
theorem d_Mo_error_130 : decode c_Mo_error 130 = .ok (.invokevirtual 173, 3) := by decide +kernel
theorem d_Mo_error_133 : decode c_Mo_error 133 = .ok (.aload_n 0, 1) := by decide +kernel
theorem d_Mo_error_134 : decode c_Mo_error 134 = .ok (.aload_n 0, 1) := by decide +kernel
theorem d_Mo_error_135 : decode c_Mo_error 135 = .ok (.invokevirtual 156, 3) := by decide +kernel
theorem d_Mo_error_138 : decode c_Mo_error 138 = .ok (.iload_n 3, 1) := by decide +kernel
theorem d_Mo_error_139 : decode c_Mo_error 139 = .ok (.invokevirtual 182, 3) := by decide +kernel
theorem d_Mo_error_142 : decode c_Mo_error 142 = .ok (.lreturn, 1) := by decide +kernel
set_option maxHeartbeats 4000000 in
set_option maxRecDepth 100000 in
theorem s_Mo_error (l : Launch) (g : Gx) (ws0 : va_W) (sz : Nat) {s : MS} {a1 : Int32} {a2 : Int32} {a3 : Int32} {res : (Int64 × MS)} (hR : ms_Rel g ws0 ws0 s) (h : fn_Mo_error s a1 a2 a3 = some res) : ct_ML l y_Mo_error c_Mo_error 7 (some .long) rm_Mo_error g ws0 sz [.ref (g.2.1 35), .int a1, .int a2, .int a3] res.1 (fun u => ms_Rel g ws0 u res.2) := by
  refine ct_startl (by decide +kernel) (Nat.le_of_ble_eq_true rfl) (fun p e sv m args below meth c ls Q A H locs C0 hret hl hw => ?_)
  have hx := C0.1
  have hb := C0.2.1
  have hown := C0.2.2.2.1
  have hts := C0.2.2.2.2.1
  have hl : lv_has ls 7 [(0, .ref (g.2.1 35)), (1, .int a1), (2, .int a2), (3, .int a3)] := hl
  have J35 : ∀ (ws : va_W) (H : Heap) (locs : List Loc) (ls : Array Slot) (s : MS) (t1 : Int32) (v4 : Int32), ct_Wd g A sv ws H locs → ms_Rel g ws0 ws s → lv_has ls 7 [(0, .ref (g.2.1 35)), (1, .int a1), (2, .int a2), (3, .int a3), (4, .int v4)] → bk_Mo_error_35 a1 a2 a3 s t1 v4 = some res → W p l e rm_Mo_error sv m args below meth c H locs 0 0 Q (F0 m 35 ls [.int t1, .ref (g.2.1 35)]) := by
    intro ws H locs ls s t1 v4 hw hR hl h
    unfold bk_Mo_error_35 at h
    refine pf_Mo_55 C0 hw hR d_Mo_error_35 (fun ws H locs hw hR => ?_)
    obtain ⟨s1, es9, h⟩ := ct_nm_ex h
    rw [← es9] at hR
    clear es9
    refine lv_aload_n hx hb d_Mo_error_38 rfl (lv_at hl 0 rfl) ?_
    refine gf_Mo_55 C0 hw hR d_Mo_error_39 ?_
    refine lv_if_eq hx hb (tgt := 47) d_Mo_error_42 (by decide) (fun hc9 => ?_) (fun hc9 => ?_)
    · rw [if_pos hc9] at h
      refine lv_aload_n hx hb d_Mo_error_47 rfl (lv_at hl 0 rfl) ?_
      obtain ⟨s2, ho, h⟩ := ct_ob_some h
      refine ct_callVv C0 hw hl.1 (q0 := 35) (hR.1 35 (by decide) (by decide)) rfl (ct_giV wd_878 wd_880 sel_Mo_look wd_7 wd_881) (fun sz => s_Mo_look l g ws sz hR.rf ho) (nA := 0) (rm := rm_Mo_look) (by decide +kernel) rfl ⟨rfl, rfl⟩ (by decide) (by decide) (As := []) (rest := []) rfl (Nat.le_of_ble_eq_true rfl) d_Mo_error_48 (fun ws1 H locs hw hp => ?_)
      have hR := hR.trans hp
      clear hp
      generalize ws1 = ws at hw hR
      refine lv_iload hx hb d_Mo_error_51 (lv_at hl 4 rfl) ?_
      refine lv_iconst (v := 1) hx hb d_Mo_error_53 (by decide) ?_
      refine lv_isub hx hb d_Mo_error_54 ?_
      refine lv_iload_n hx hb d_Mo_error_55 rfl (lv_at hl 2 rfl) ?_
      refine lv_isub hx hb d_Mo_error_56 ?_
      refine lv_topi (fun x3 e9 => ?_)
      have h := ct_nm_at h e9
      clear e9
      refine lv_istore (lv' := [(5, .int x3), (0, .ref (g.2.1 35)), (1, .int a1), (2, .int a2), (3, .int a3), (4, .int v4)]) hx hb d_Mo_error_57 hl (by decide) rfl (fun ls hl => ?_)
      refine lv_aload_n hx hb d_Mo_error_59 rfl (lv_at hl 1 rfl) ?_
      refine gf_Mo_43 C0 hw hR d_Mo_error_60 ?_
      refine lv_iconst (v := 2) hx hb d_Mo_error_63 (by decide) ?_
      refine lv_isub hx hb d_Mo_error_64 ?_
      refine lv_iload_n hx hb d_Mo_error_65 rfl (lv_at hl 3 rfl) ?_
      refine lv_isub hx hb d_Mo_error_66 ?_
      refine lv_topi (fun x4 e9 => ?_)
      have h := ct_nm_at h e9
      clear e9
      refine lv_istore (lv' := [(6, .int x4), (5, .int x3), (0, .ref (g.2.1 35)), (1, .int a1), (2, .int a2), (3, .int a3), (4, .int v4)]) hx hb d_Mo_error_67 hl (by decide) rfl (fun ls hl => ?_)
      refine lv_aload_n hx hb d_Mo_error_69 rfl (lv_at hl 2 rfl) ?_
      refine lv_iload_n hx hb d_Mo_error_70 rfl (lv_at hl 3 rfl) ?_
      refine lv_iload hx hb d_Mo_error_71 (lv_at hl 1 rfl) ?_
      refine lv_iload hx hb d_Mo_error_73 (lv_at hl 0 rfl) ?_
      obtain ⟨x5, s6, ho, h⟩ := ct_ob2_some h
      refine ct_callVi C0 hw hl.1 (q0 := 35) (hR.1 35 (by decide) (by decide)) rfl (ct_giV wd_931 wd_933 sel_Mo_areDefined wd_7 wd_934) (fun sz => s_Mo_areDefined l g ws sz hR.rf ho) (nA := 3) (rm := rm_Mo_areDefined) (by decide +kernel) rfl ⟨rfl, rfl⟩ (by decide) (by decide) (As := [.int a1, .int x3, .int x4]) (rest := []) rfl (Nat.le_of_ble_eq_true rfl) d_Mo_error_75 (fun ws1 H locs hw hp => ?_)
      have hR := hR.trans hp
      clear hp
      generalize ws1 = ws at hw hR
      refine lv_if_ne hx hb (tgt := 88) d_Mo_error_78 (by decide) (fun hc9 => ?_) (fun hc9 => ?_)
      · rw [if_pos hc9] at h
        refine lv_aload_n hx hb d_Mo_error_88 rfl (lv_at hl 2 rfl) ?_
        refine lv_iload_n hx hb d_Mo_error_89 rfl (lv_at hl 3 rfl) ?_
        refine lv_iload hx hb d_Mo_error_90 (lv_at hl 1 rfl) ?_
        refine lv_iload hx hb d_Mo_error_92 (lv_at hl 0 rfl) ?_
        obtain ⟨s7, ho, h⟩ := ct_ob_some h
        refine ct_callVv C0 hw hl.1 (q0 := 35) (hR.1 35 (by decide) (by decide)) rfl (ct_giV wd_935 wd_937 sel_Mo_way wd_7 wd_938) (fun sz => s_Mo_way l g ws sz hR.rf ho) (nA := 3) (rm := rm_Mo_way) (by decide +kernel) rfl ⟨rfl, rfl⟩ (by decide) (by decide) (As := [.int a1, .int x3, .int x4]) (rest := []) rfl (Nat.le_of_ble_eq_true rfl) d_Mo_error_94 (fun ws1 H locs hw hp => ?_)
        have hR := hR.trans hp
        clear hp
        generalize ws1 = ws at hw hR
        refine lv_aload_n hx hb d_Mo_error_97 rfl (lv_at hl 2 rfl) ?_
        refine lv_aload_n hx hb d_Mo_error_98 rfl (lv_at hl 2 rfl) ?_
        refine lv_iload_n hx hb d_Mo_error_99 rfl (lv_at hl 4 rfl) ?_
        obtain ⟨x8, ho, h⟩ := ct_ob_some h
        refine ct_callVi C0 hw hl.1 (q0 := 35) (hR.1 35 (by decide) (by decide)) rfl (ct_giV wd_939 wd_941 sel_Mo_latestOf wd_7 wd_942) (fun sz => s_Mo_latestOf l g ws sz hR.rf ho) (nA := 1) (rm := rm_Mo_latestOf) (by decide +kernel) rfl ⟨rfl, rfl⟩ (by decide) (by decide) (As := [.int a2]) (rest := [.ref (g.2.1 35)]) rfl (Nat.le_of_ble_eq_true rfl) d_Mo_error_100 (fun ws1 H locs hw hp => ?_)
        rw [hp] at hw
        clear hp
        refine lv_i2l hx hb d_Mo_error_103 rfl ?_
        refine lv_lconst (v := 1) hx hb d_Mo_error_104 (by decide) ?_
        obtain ⟨s9, ho, h⟩ := ct_ob_some h
        refine ct_callVv C0 hw hl.1 (q0 := 35) (hR.1 35 (by decide) (by decide)) rfl (ct_giV wd_918 wd_920 sel_Mo_times wd_7 wd_921) (fun sz => s_Mo_times l g ws sz hR.rf ho) (nA := 2) (rm := rm_Mo_times) (by decide +kernel) rfl ⟨rfl, rfl⟩ (by decide) (by decide) (As := [.long x8.toInt64, .long 1]) (rest := []) rfl (Nat.le_of_ble_eq_true rfl) d_Mo_error_105 (fun ws1 H locs hw hp => ?_)
        have hR := hR.trans hp
        clear hp
        generalize ws1 = ws at hw hR
        refine lv_aload_n hx hb d_Mo_error_108 rfl (lv_at hl 2 rfl) ?_
        refine lv_aload_n hx hb d_Mo_error_109 rfl (lv_at hl 2 rfl) ?_
        refine gf_Mo_52 C0 hw hR d_Mo_error_110 ?_
        refine lv_bipush (v := 6) hx hb d_Mo_error_113 (by decide) ?_
        refine lv_iload_n hx hb d_Mo_error_115 rfl (lv_at hl 4 rfl) ?_
        refine lv_imul hx hb d_Mo_error_116 ?_
        refine lv_aload_n hx hb d_Mo_error_117 rfl (lv_at hl 2 rfl) ?_
        refine gf_Mo_43 C0 hw hR d_Mo_error_118 ?_
        refine lv_iadd hx hb d_Mo_error_121 ?_
        refine lv_iconst (v := 1) hx hb d_Mo_error_122 (by decide) ?_
        refine lv_isub hx hb d_Mo_error_123 ?_
        refine lv_iload_n hx hb d_Mo_error_124 rfl (lv_at hl 4 rfl) ?_
        refine lv_isub hx hb d_Mo_error_125 ?_
        obtain ⟨hg126, h⟩ := ct_gd_some h
        refine ct_ldma8 C0 hw hR (ct_inR_vp hg126) d_Mo_error_126 ?_
        refine lv_ineg hx hb d_Mo_error_127 ?_
        refine lv_i2l hx hb d_Mo_error_128 rfl ?_
        refine lv_lconst (v := 1) hx hb d_Mo_error_129 (by decide) ?_
        obtain ⟨s10, ho, h⟩ := ct_ob_some h
        refine ct_callVv C0 hw hl.1 (q0 := 35) (hR.1 35 (by decide) (by decide)) rfl (ct_giV wd_947 wd_949 sel_Mo_plus wd_7 wd_950) (fun sz => s_Mo_plus l g ws sz hR.rf ho) (nA := 2) (rm := rm_Mo_plus) (by decide +kernel) rfl ⟨rfl, rfl⟩ (by decide) (by decide) (As := [.long ((-(ms_A s9 8 ((((6 * a2) + (ms_I s9 5)) - 1) - a2).toNatClampNeg)).toInt64), .long 1]) (rest := []) rfl (Nat.le_of_ble_eq_true rfl) d_Mo_error_130 (fun ws1 H locs hw hp => ?_)
        have hR := hR.trans hp
        clear hp
        generalize ws1 = ws at hw hR
        refine lv_aload_n hx hb d_Mo_error_133 rfl (lv_at hl 2 rfl) ?_
        refine lv_aload_n hx hb d_Mo_error_134 rfl (lv_at hl 2 rfl) ?_
        obtain ⟨x11, ho, h⟩ := ct_ob_some h
        refine ct_callVi C0 hw hl.1 (q0 := 35) (hR.1 35 (by decide) (by decide)) rfl (ct_giV wd_927 wd_929 sel_Mo_answer wd_7 wd_930) (fun sz => s_Mo_answer l g ws sz hR.rf ho) (nA := 0) (rm := rm_Mo_answer) (by decide +kernel) rfl ⟨rfl, rfl⟩ (by decide) (by decide) (As := []) (rest := [.ref (g.2.1 35)]) rfl (Nat.le_of_ble_eq_true rfl) d_Mo_error_135 (fun ws1 H locs hw hp => ?_)
        rw [hp] at hw
        clear hp
        refine lv_iload_n hx hb d_Mo_error_138 rfl (lv_at hl 5 rfl) ?_
        obtain ⟨x12, s13, ho, h⟩ := ct_ob2_some h
        refine ct_callVl C0 hw hl.1 (q0 := 35) (hR.1 35 (by decide) (by decide)) rfl (ct_giV wd_898 wd_900 sel_Mo_told wd_7 wd_901) (fun sz => s_Mo_told l g ws sz hR.rf ho) (nA := 2) (rm := rm_Mo_told) (by decide +kernel) rfl ⟨rfl, rfl⟩ (by decide) (by decide) (As := [.int x11, .int a3]) (rest := []) rfl (Nat.le_of_ble_eq_true rfl) d_Mo_error_139 (fun ws1 H locs hw hp => ?_)
        have hR := hR.trans hp
        clear hp
        generalize ws1 = ws at hw hR
        obtain rfl := Option.some.inj h
        exact hret hw hR d_Mo_error_142
      · rw [if_neg (fun q => q hc9)] at h
        refine lv_aload_n hx hb d_Mo_error_81 rfl (lv_at hl 2 rfl) ?_
        refine lv_iconst (v := 2) hx hb d_Mo_error_82 (by decide) ?_
        refine lv_iload_n hx hb d_Mo_error_83 rfl (lv_at hl 5 rfl) ?_
        obtain ⟨x14, s15, ho, h⟩ := ct_ob2_some h
        refine ct_callVl C0 hw hl.1 (q0 := 35) (hR.1 35 (by decide) (by decide)) rfl (ct_giV wd_898 wd_900 sel_Mo_told wd_7 wd_901) (fun sz => s_Mo_told l g ws sz hR.rf ho) (nA := 2) (rm := rm_Mo_told) (by decide +kernel) rfl ⟨rfl, rfl⟩ (by decide) (by decide) (As := [.int 2, .int a3]) (rest := []) rfl (Nat.le_of_ble_eq_true rfl) d_Mo_error_84 (fun ws1 H locs hw hp => ?_)
        have hR := hR.trans hp
        clear hp
        generalize ws1 = ws at hw hR
        obtain rfl := Option.some.inj h
        exact hret hw hR d_Mo_error_87
    · rw [if_neg hc9] at h
      refine lv_lconst (v := 0) hx hb d_Mo_error_45 (by decide) ?_
      obtain rfl := Option.some.inj h
      exact hret hw hR d_Mo_error_46
  unfold fn_Mo_error at h
  obtain ⟨ws, hwe⟩ : ∃ z : va_W, z = ws0 := ⟨_, rfl⟩
  rw [← hwe] at hw
  have hR : ms_Rel g ws0 ws s := by rw [hwe]; exact hR
  clear hwe
  refine lv_aload_n hx hb d_Mo_error_0 rfl (lv_at hl 0 rfl) ?_
  obtain ⟨x16, ho, h⟩ := ct_ob_some h
  refine ct_callVi C0 hw hl.1 (q0 := 35) (hR.1 35 (by decide) (by decide)) rfl (ct_giV wd_846 wd_848 sel_Mo_left wd_7 wd_849) (fun sz => s_Mo_left l g ws sz hR.rf ho) (nA := 0) (rm := rm_Mo_left) (by decide +kernel) rfl ⟨rfl, rfl⟩ (by decide) (by decide) (As := []) (rest := []) rfl (Nat.le_of_ble_eq_true rfl) d_Mo_error_1 (fun ws1 H locs hw hp => ?_)
  rw [hp] at hw
  clear hp
  refine lv_istore (lv' := [(4, .int x16), (0, .ref (g.2.1 35)), (1, .int a1), (2, .int a2), (3, .int a3)]) hx hb d_Mo_error_4 hl (by decide) rfl (fun ls hl => ?_)
  refine lv_aload_n hx hb d_Mo_error_6 rfl (lv_at hl 1 rfl) ?_
  refine lv_iload_n hx hb d_Mo_error_7 rfl (lv_at hl 2 rfl) ?_
  refine lv_if_lt hx hb (tgt := 30) d_Mo_error_8 (by decide) (fun hc9 => ?_) (fun hc9 => ?_)
  · rw [if_pos hc9] at h
    refine lv_iconst (v := 1) hx hb d_Mo_error_30 (by decide) ?_
    refine lv_goto hx hb (tgt := 35) d_Mo_error_31 (by decide) ?_
    exact J35 ws H locs ls s 1 x16 hw hR (lv_sub hl [1, 2, 3, 4, 0] rfl) h
  · rw [if_neg hc9] at h
    refine lv_iload_n hx hb d_Mo_error_11 rfl (lv_at hl 2 rfl) ?_
    refine lv_iconst (v := 1) hx hb d_Mo_error_12 (by decide) ?_
    refine lv_icmp_gt hx hb (tgt := 30) d_Mo_error_13 (by decide) (fun hc9 => ?_) (fun hc9 => ?_)
    · rw [if_pos hc9] at h
      refine lv_iconst (v := 1) hx hb d_Mo_error_30 (by decide) ?_
      refine lv_goto hx hb (tgt := 35) d_Mo_error_31 (by decide) ?_
      exact J35 ws H locs ls s 1 x16 hw hR (lv_sub hl [1, 2, 3, 4, 0] rfl) h
    · rw [if_neg hc9] at h
      refine lv_iload_n hx hb d_Mo_error_16 rfl (lv_at hl 3 rfl) ?_
      refine lv_aload_n hx hb d_Mo_error_17 rfl (lv_at hl 1 rfl) ?_
      refine gf_Mo_87 C0 hw hR d_Mo_error_18 ?_
      refine lv_icmp_lt hx hb (tgt := 30) d_Mo_error_21 (by decide) (fun hc9 => ?_) (fun hc9 => ?_)
      · rw [if_pos hc9] at h
        refine lv_iconst (v := 1) hx hb d_Mo_error_30 (by decide) ?_
        refine lv_goto hx hb (tgt := 35) d_Mo_error_31 (by decide) ?_
        exact J35 ws H locs ls s 1 x16 hw hR (lv_sub hl [1, 2, 3, 4, 0] rfl) h
      · rw [if_neg hc9] at h
        refine lv_iload_n hx hb d_Mo_error_24 rfl (lv_at hl 3 rfl) ?_
        refine lv_iload hx hb d_Mo_error_25 (lv_at hl 0 rfl) ?_
        refine lv_icmp_lt hx hb (tgt := 34) d_Mo_error_27 (by decide) (fun hc9 => ?_) (fun hc9 => ?_)
        · rw [if_pos hc9] at h
          refine lv_iconst (v := 0) hx hb d_Mo_error_34 (by decide) ?_
          exact J35 ws H locs ls s 0 x16 hw hR (lv_sub hl [1, 2, 3, 4, 0] rfl) h
        · rw [if_neg hc9] at h
          refine lv_iconst (v := 1) hx hb d_Mo_error_30 (by decide) ?_
          refine lv_goto hx hb (tgt := 35) d_Mo_error_31 (by decide) ?_
          exact J35 ws H locs ls s 1 x16 hw hR (lv_sub hl [1, 2, 3, 4, 0] rfl) h

theorem d_Mo_diagonal_0 : decode c_Mo_diagonal 0 = .ok (.aload_n 0, 1) := by decide +kernel
theorem d_Mo_diagonal_1 : decode c_Mo_diagonal 1 = .ok (.iload_n 1, 1) := by decide +kernel
theorem d_Mo_diagonal_2 : decode c_Mo_diagonal 2 = .ok (.ifCond .lt 11, 3) := by decide +kernel
theorem d_Mo_diagonal_5 : decode c_Mo_diagonal 5 = .ok (.iload_n 1, 1) := by decide +kernel
theorem d_Mo_diagonal_6 : decode c_Mo_diagonal 6 = .ok (.aload_n 0, 1) := by decide +kernel
theorem d_Mo_diagonal_7 : decode c_Mo_diagonal 7 = .ok (.invokevirtual 100, 3) := by decide +kernel
theorem d_Mo_diagonal_10 : decode c_Mo_diagonal 10 = .ok (.if_icmp .lt 7, 3) := by decide +kernel
theorem d_Mo_diagonal_13 : decode c_Mo_diagonal 13 = .ok (.iconst 1, 1) := by decide +kernel
theorem d_Mo_diagonal_14 : decode c_Mo_diagonal 14 = .ok (.goto 4, 3) := by decide +kernel
theorem d_Mo_diagonal_17 : decode c_Mo_diagonal 17 = .ok (.iconst 0, 1) := by decide +kernel
theorem d_Mo_diagonal_18 : decode c_Mo_diagonal 18 = .ok (.putfield 55, 3) := by decide +kernel
theorem d_Mo_diagonal_21 : decode c_Mo_diagonal 21 = .ok (.aload_n 0, 1) := by decide +kernel
theorem d_Mo_diagonal_22 : decode c_Mo_diagonal 22 = .ok (.getfield 55, 3) := by decide +kernel
theorem d_Mo_diagonal_25 : decode c_Mo_diagonal 25 = .ok (.ifCond .eq 5, 3) := by decide +kernel
theorem d_Mo_diagonal_28 : decode c_Mo_diagonal 28 = .ok (.iconst 0, 1) := by decide +kernel
theorem d_Mo_diagonal_29 : decode c_Mo_diagonal 29 = .ok (.ireturn, 1) := by decide +kernel
theorem d_Mo_diagonal_30 : decode c_Mo_diagonal 30 = .ok (.aload_n 0, 1) := by decide +kernel
theorem d_Mo_diagonal_31 : decode c_Mo_diagonal 31 = .ok (.invokevirtual 179, 3) := by decide +kernel
theorem d_Mo_diagonal_34 : decode c_Mo_diagonal 34 = .ok (.iconst 0, 1) := by decide +kernel
theorem d_Mo_diagonal_35 : decode c_Mo_diagonal 35 = .ok (.istore_n 2, 1) := by decide +kernel
theorem d_Mo_diagonal_36 : decode c_Mo_diagonal 36 = .ok (.iconst 0, 1) := by decide +kernel
theorem d_Mo_diagonal_37 : decode c_Mo_diagonal 37 = .ok (.istore_n 3, 1) := by decide +kernel
theorem d_Mo_diagonal_38 : decode c_Mo_diagonal 38 = .ok (.iload_n 3, 1) := by decide +kernel
theorem d_Mo_diagonal_39 : decode c_Mo_diagonal 39 = .ok (.iload_n 1, 1) := by decide +kernel
theorem d_Mo_diagonal_40 : decode c_Mo_diagonal 40 = .ok (.if_icmp .gt 50, 3) := by decide +kernel
theorem d_Mo_diagonal_43 : decode c_Mo_diagonal 43 = .ok (.iload_n 2, 1) := by decide +kernel
theorem d_Mo_diagonal_44 : decode c_Mo_diagonal 44 = .ok (.aload_n 0, 1) := by decide +kernel
theorem d_Mo_diagonal_45 : decode c_Mo_diagonal 45 = .ok (.getfield 52, 3) := by decide +kernel
theorem d_Mo_diagonal_48 : decode c_Mo_diagonal 48 = .ok (.bipush 6, 2) := by decide +kernel
theorem d_Mo_diagonal_50 : decode c_Mo_diagonal 50 = .ok (.iload_n 3, 1) := by decide +kernel
theorem d_Mo_diagonal_51 : decode c_Mo_diagonal 51 = .ok (.imul, 1) := by decide +kernel
theorem d_Mo_diagonal_52 : decode c_Mo_diagonal 52 = .ok (.iload_n 1, 1) := by decide +kernel
theorem d_Mo_diagonal_53 : decode c_Mo_diagonal 53 = .ok (.iadd, 1) := by decide +kernel
theorem d_Mo_diagonal_54 : decode c_Mo_diagonal 54 = .ok (.iload_n 3, 1) := by decide +kernel
theorem d_Mo_diagonal_55 : decode c_Mo_diagonal 55 = .ok (.isub, 1) := by decide +kernel
theorem d_Mo_diagonal_56 : decode c_Mo_diagonal 56 = .ok (.iaload, 1) := by decide +kernel
theorem d_Mo_diagonal_57 : decode c_Mo_diagonal 57 = .ok (.iload_n 1, 1) := by decide +kernel
theorem d_Mo_diagonal_58 : decode c_Mo_diagonal 58 = .ok (.iload_n 3, 1) := by decide +kernel
theorem d_Mo_diagonal_59 : decode c_Mo_diagonal 59 = .ok (.if_icmp .ne 7, 3) := by decide +kernel
theorem d_Mo_diagonal_62 : decode c_Mo_diagonal 62 = .ok (.iconst 0, 1) := by decide +kernel
theorem d_Mo_diagonal_63 : decode c_Mo_diagonal 63 = .ok (.goto 18, 3) := by decide +kernel
theorem d_Mo_diagonal_66 : decode c_Mo_diagonal 66 = .ok (.aload_n 0, 1) := by decide +kernel
theorem d_Mo_diagonal_67 : decode c_Mo_diagonal 67 = .ok (.getfield 52, 3) := by decide +kernel
theorem d_Mo_diagonal_70 : decode c_Mo_diagonal 70 = .ok (.bipush 6, 2) := by decide +kernel
theorem d_Mo_diagonal_72 : decode c_Mo_diagonal 72 = .ok (.iload_n 3, 1) := by decide +kernel
theorem d_Mo_diagonal_73 : decode c_Mo_diagonal 73 = .ok (.imul, 1) := by decide +kernel
theorem d_Mo_diagonal_74 : decode c_Mo_diagonal 74 = .ok (.iload_n 1, 1) := by decide +kernel
theorem d_Mo_diagonal_75 : decode c_Mo_diagonal 75 = .ok (.iadd, 1) := by decide +kernel
theorem d_Mo_diagonal_76 : decode c_Mo_diagonal 76 = .ok (.iload_n 3, 1) := by decide +kernel
theorem d_Mo_diagonal_77 : decode c_Mo_diagonal 77 = .ok (.isub, 1) := by decide +kernel
theorem d_Mo_diagonal_78 : decode c_Mo_diagonal 78 = .ok (.iconst 1, 1) := by decide +kernel
theorem d_Mo_diagonal_79 : decode c_Mo_diagonal 79 = .ok (.isub, 1) := by decide +kernel
theorem d_Mo_diagonal_80 : decode c_Mo_diagonal 80 = .ok (.iaload, 1) := by decide +kernel
theorem d_Mo_diagonal_81 : decode c_Mo_diagonal 81 = .ok (.isub, 1) := by decide +kernel
theorem d_Mo_diagonal_82 : decode c_Mo_diagonal 82 = .ok (.iadd, 1) := by decide +kernel
theorem d_Mo_diagonal_83 : decode c_Mo_diagonal 83 = .ok (.istore_n 2, 1) := by decide +kernel
theorem d_Mo_diagonal_84 : decode c_Mo_diagonal 84 = .ok (.iinc 3 1, 3) := by decide +kernel
theorem d_Mo_diagonal_87 : decode c_Mo_diagonal 87 = .ok (.goto (-49), 3) := by decide +kernel
theorem d_Mo_diagonal_90 : decode c_Mo_diagonal 90 = .ok (.iload_n 2, 1) := by decide +kernel
theorem d_Mo_diagonal_91 : decode c_Mo_diagonal 91 = .ok (.ireturn, 1) := by decide +kernel
set_option maxHeartbeats 4000000 in
set_option maxRecDepth 100000 in
theorem s_Mo_diagonal (l : Launch) (g : Gx) (ws0 : va_W) (sz : Nat) {s : MS} {a1 : Int32} {res : (Int32 × MS)} (hR : ms_Rel g ws0 ws0 s) (h : fn_Mo_diagonal s a1 = some res) : ct_MI l y_Mo_diagonal c_Mo_diagonal 4 (some .int) rm_Mo_diagonal g ws0 sz [.ref (g.2.1 35), .int a1] res.1 (fun u => ms_Rel g ws0 u res.2) := by
  refine ct_starti (by decide +kernel) (Nat.le_of_ble_eq_true rfl) (fun p e sv m args below meth c ls Q A H locs C0 hret hl hw => ?_)
  have hx := C0.1
  have hb := C0.2.1
  have hown := C0.2.2.2.1
  have hts := C0.2.2.2.2.1
  have hl : lv_has ls 4 [(0, .ref (g.2.1 35)), (1, .int a1)] := hl
  have L38 : ∀ (n38 : Nat) (ws : va_W) (H : Heap) (locs : List Loc) (ls : Array Slot) (s : MS) (v2 : Int32) (v3 : Int32), ct_Wd g A sv ws H locs → ms_Rel g ws0 ws s → lv_has ls 4 [(0, .ref (g.2.1 35)), (1, .int a1), (2, .int v2), (3, .int v3)] → bk_Mo_diagonal_38 a1 n38 s v2 v3 = some res → W p l e rm_Mo_diagonal sv m args below meth c H locs 0 0 Q (F0 m 38 ls []) := by
    intro n38
    induction n38 with
    | zero =>
      intro ws H locs ls s v2 v3 hw hR hl h
      exact absurd h (by simp [bk_Mo_diagonal_38])
    | succ n38 ih38 =>
      have J81 : ∀ (ws : va_W) (H : Heap) (locs : List Loc) (ls : Array Slot) (s : MS) (t0 : Int32) (t1 : Int32) (t2 : Int32) (v3 : Int32), ct_Wd g A sv ws H locs → ms_Rel g ws0 ws s → lv_has ls 4 [(0, .ref (g.2.1 35)), (1, .int a1), (3, .int v3)] → bk_Mo_diagonal_81 a1 (bk_Mo_diagonal_38 a1 n38) s t0 t1 t2 v3 = some res → W p l e rm_Mo_diagonal sv m args below meth c H locs 0 0 Q (F0 m 81 ls [.int t2, .int t1, .int t0]) := by
        intro ws H locs ls s t0 t1 t2 v3 hw hR hl h
        unfold bk_Mo_diagonal_81 at h
        refine lv_isub hx hb d_Mo_diagonal_81 ?_
        refine lv_iadd hx hb d_Mo_diagonal_82 ?_
        refine lv_topi (fun x1 e9 => ?_)
        have h := ct_nm_at h e9
        clear e9
        refine lv_istore_n (lv' := [(2, .int x1), (0, .ref (g.2.1 35)), (1, .int a1), (3, .int v3)]) hx hb d_Mo_diagonal_83 rfl hl (by decide) rfl (fun ls hl => ?_)
        refine lv_iinc (v := v3 + 1) (k := 3) (lv' := [(3, .int (v3 + 1)), (2, .int x1), (0, .ref (g.2.1 35)), (1, .int a1)]) hx hb d_Mo_diagonal_84 hl rfl rfl (by decide) rfl (fun ls hl => ?_)
        refine lv_goto hx hb (tgt := 38) d_Mo_diagonal_87 (by decide) ?_
        exact ih38 ws H locs ls s x1 (v3 + 1) hw hR (lv_sub hl [2, 3, 1, 0] rfl) h
      intro ws H locs ls s v2 v3 hw hR hl h
      have h : bk_Mo_diagonal_38_o a1 (bk_Mo_diagonal_38 a1 n38) s v2 v3 = some res := h
      unfold bk_Mo_diagonal_38_o at h
      refine lv_iload_n hx hb d_Mo_diagonal_38 rfl (lv_at hl 3 rfl) ?_
      refine lv_iload_n hx hb d_Mo_diagonal_39 rfl (lv_at hl 1 rfl) ?_
      refine lv_icmp_gt hx hb (tgt := 90) d_Mo_diagonal_40 (by decide) (fun hc9 => ?_) (fun hc9 => ?_)
      · rw [if_pos hc9] at h
        refine lv_iload_n hx hb d_Mo_diagonal_90 rfl (lv_at hl 2 rfl) ?_
        obtain rfl := Option.some.inj h
        exact hret hw hR d_Mo_diagonal_91
      · rw [if_neg hc9] at h
        refine lv_iload_n hx hb d_Mo_diagonal_43 rfl (lv_at hl 2 rfl) ?_
        refine lv_aload_n hx hb d_Mo_diagonal_44 rfl (lv_at hl 0 rfl) ?_
        refine gf_Mo_52 C0 hw hR d_Mo_diagonal_45 ?_
        refine lv_bipush (v := 6) hx hb d_Mo_diagonal_48 (by decide) ?_
        refine lv_iload_n hx hb d_Mo_diagonal_50 rfl (lv_at hl 3 rfl) ?_
        refine lv_imul hx hb d_Mo_diagonal_51 ?_
        refine lv_iload_n hx hb d_Mo_diagonal_52 rfl (lv_at hl 1 rfl) ?_
        refine lv_iadd hx hb d_Mo_diagonal_53 ?_
        refine lv_iload_n hx hb d_Mo_diagonal_54 rfl (lv_at hl 3 rfl) ?_
        refine lv_isub hx hb d_Mo_diagonal_55 ?_
        obtain ⟨hg56, h⟩ := ct_gd_some h
        refine ct_ldma8 C0 hw hR (ct_inR_vp hg56) d_Mo_diagonal_56 ?_
        refine lv_iload_n hx hb d_Mo_diagonal_57 rfl (lv_at hl 1 rfl) ?_
        refine lv_iload_n hx hb d_Mo_diagonal_58 rfl (lv_at hl 3 rfl) ?_
        refine lv_icmp_ne hx hb (tgt := 66) d_Mo_diagonal_59 (by decide) (fun hc9 => ?_) (fun hc9 => ?_)
        · rw [if_pos hc9] at h
          refine lv_aload_n hx hb d_Mo_diagonal_66 rfl (lv_at hl 0 rfl) ?_
          refine gf_Mo_52 C0 hw hR d_Mo_diagonal_67 ?_
          refine lv_bipush (v := 6) hx hb d_Mo_diagonal_70 (by decide) ?_
          refine lv_iload_n hx hb d_Mo_diagonal_72 rfl (lv_at hl 3 rfl) ?_
          refine lv_imul hx hb d_Mo_diagonal_73 ?_
          refine lv_iload_n hx hb d_Mo_diagonal_74 rfl (lv_at hl 1 rfl) ?_
          refine lv_iadd hx hb d_Mo_diagonal_75 ?_
          refine lv_iload_n hx hb d_Mo_diagonal_76 rfl (lv_at hl 3 rfl) ?_
          refine lv_isub hx hb d_Mo_diagonal_77 ?_
          refine lv_iconst (v := 1) hx hb d_Mo_diagonal_78 (by decide) ?_
          refine lv_isub hx hb d_Mo_diagonal_79 ?_
          obtain ⟨hg80, h⟩ := ct_gd_some h
          refine ct_ldma8 C0 hw hR (ct_inR_vp hg80) d_Mo_diagonal_80 ?_
          exact J81 ws H locs ls s v2 (ms_A s 8 (((6 * v3) + a1) - v3).toNatClampNeg) (ms_A s 8 ((((6 * v3) + a1) - v3) - 1).toNatClampNeg) v3 hw hR (lv_sub hl [0, 1, 3] rfl) h
        · rw [if_neg (fun q => q hc9)] at h
          refine lv_iconst (v := 0) hx hb d_Mo_diagonal_62 (by decide) ?_
          refine lv_goto hx hb (tgt := 81) d_Mo_diagonal_63 (by decide) ?_
          exact J81 ws H locs ls s v2 (ms_A s 8 (((6 * v3) + a1) - v3).toNatClampNeg) 0 v3 hw hR (lv_sub hl [0, 1, 3] rfl) h
  have J18 : ∀ (ws : va_W) (H : Heap) (locs : List Loc) (ls : Array Slot) (s : MS) (t1 : Int32), ct_Wd g A sv ws H locs → ms_Rel g ws0 ws s → lv_has ls 4 [(0, .ref (g.2.1 35)), (1, .int a1)] → bk_Mo_diagonal_18 a1 s t1 = some res → W p l e rm_Mo_diagonal sv m args below meth c H locs 0 0 Q (F0 m 18 ls [.int t1, .ref (g.2.1 35)]) := by
    intro ws H locs ls s t1 hw hR hl h
    unfold bk_Mo_diagonal_18 at h
    refine pf_Mo_55 C0 hw hR d_Mo_diagonal_18 (fun ws H locs hw hR => ?_)
    obtain ⟨s2, es9, h⟩ := ct_nm_ex h
    rw [← es9] at hR
    clear es9
    refine lv_aload_n hx hb d_Mo_diagonal_21 rfl (lv_at hl 0 rfl) ?_
    refine gf_Mo_55 C0 hw hR d_Mo_diagonal_22 ?_
    refine lv_if_eq hx hb (tgt := 30) d_Mo_diagonal_25 (by decide) (fun hc9 => ?_) (fun hc9 => ?_)
    · rw [if_pos hc9] at h
      refine lv_aload_n hx hb d_Mo_diagonal_30 rfl (lv_at hl 0 rfl) ?_
      obtain ⟨s3, ho, h⟩ := ct_ob_some h
      refine ct_callVv C0 hw hl.1 (q0 := 35) (hR.1 35 (by decide) (by decide)) rfl (ct_giV wd_878 wd_880 sel_Mo_look wd_7 wd_881) (fun sz => s_Mo_look l g ws sz hR.rf ho) (nA := 0) (rm := rm_Mo_look) (by decide +kernel) rfl ⟨rfl, rfl⟩ (by decide) (by decide) (As := []) (rest := []) rfl (Nat.le_of_ble_eq_true rfl) d_Mo_diagonal_31 (fun ws1 H locs hw hp => ?_)
      have hR := hR.trans hp
      clear hp
      generalize ws1 = ws at hw hR
      refine lv_iconst (v := 0) hx hb d_Mo_diagonal_34 (by decide) ?_
      refine lv_istore_n (lv' := [(2, .int 0), (0, .ref (g.2.1 35)), (1, .int a1)]) hx hb d_Mo_diagonal_35 rfl hl (by decide) rfl (fun ls hl => ?_)
      refine lv_iconst (v := 0) hx hb d_Mo_diagonal_36 (by decide) ?_
      refine lv_istore_n (lv' := [(3, .int 0), (2, .int 0), (0, .ref (g.2.1 35)), (1, .int a1)]) hx hb d_Mo_diagonal_37 rfl hl (by decide) rfl (fun ls hl => ?_)
      exact L38 200 ws H locs ls s3 0 0 hw hR (lv_sub hl [2, 3, 1, 0] rfl) h
    · rw [if_neg hc9] at h
      refine lv_iconst (v := 0) hx hb d_Mo_diagonal_28 (by decide) ?_
      obtain rfl := Option.some.inj h
      exact hret hw hR d_Mo_diagonal_29
  unfold fn_Mo_diagonal at h
  obtain ⟨ws, hwe⟩ : ∃ z : va_W, z = ws0 := ⟨_, rfl⟩
  rw [← hwe] at hw
  have hR : ms_Rel g ws0 ws s := by rw [hwe]; exact hR
  clear hwe
  refine lv_aload_n hx hb d_Mo_diagonal_0 rfl (lv_at hl 0 rfl) ?_
  refine lv_iload_n hx hb d_Mo_diagonal_1 rfl (lv_at hl 1 rfl) ?_
  refine lv_if_lt hx hb (tgt := 13) d_Mo_diagonal_2 (by decide) (fun hc9 => ?_) (fun hc9 => ?_)
  · rw [if_pos hc9] at h
    refine lv_iconst (v := 1) hx hb d_Mo_diagonal_13 (by decide) ?_
    refine lv_goto hx hb (tgt := 18) d_Mo_diagonal_14 (by decide) ?_
    exact J18 ws H locs ls s 1 hw hR (lv_sub hl [0, 1] rfl) h
  · rw [if_neg hc9] at h
    refine lv_iload_n hx hb d_Mo_diagonal_5 rfl (lv_at hl 1 rfl) ?_
    refine lv_aload_n hx hb d_Mo_diagonal_6 rfl (lv_at hl 0 rfl) ?_
    obtain ⟨x4, ho, h⟩ := ct_ob_some h
    refine ct_callVi C0 hw hl.1 (q0 := 35) (hR.1 35 (by decide) (by decide)) rfl (ct_giV wd_846 wd_848 sel_Mo_left wd_7 wd_849) (fun sz => s_Mo_left l g ws sz hR.rf ho) (nA := 0) (rm := rm_Mo_left) (by decide +kernel) rfl ⟨rfl, rfl⟩ (by decide) (by decide) (As := []) (rest := [.int a1, .ref (g.2.1 35)]) rfl (Nat.le_of_ble_eq_true rfl) d_Mo_diagonal_7 (fun ws1 H locs hw hp => ?_)
    rw [hp] at hw
    clear hp
    refine lv_icmp_lt hx hb (tgt := 17) d_Mo_diagonal_10 (by decide) (fun hc9 => ?_) (fun hc9 => ?_)
    · rw [if_pos hc9] at h
      refine lv_iconst (v := 0) hx hb d_Mo_diagonal_17 (by decide) ?_
      exact J18 ws H locs ls s 0 hw hR (lv_sub hl [0, 1] rfl) h
    · rw [if_neg hc9] at h
      refine lv_iconst (v := 1) hx hb d_Mo_diagonal_13 (by decide) ?_
      refine lv_goto hx hb (tgt := 18) d_Mo_diagonal_14 (by decide) ?_
      exact J18 ws H locs ls s 1 hw hR (lv_sub hl [0, 1] rfl) h

theorem d_Mo_count_0 : decode c_Mo_count 0 = .ok (.aload_n 0, 1) := by decide +kernel
theorem d_Mo_count_1 : decode c_Mo_count 1 = .ok (.iload_n 1, 1) := by decide +kernel
theorem d_Mo_count_2 : decode c_Mo_count 2 = .ok (.ifCond .lt 8, 3) := by decide +kernel
theorem d_Mo_count_5 : decode c_Mo_count 5 = .ok (.iload_n 1, 1) := by decide +kernel
theorem d_Mo_count_6 : decode c_Mo_count 6 = .ok (.iconst 4, 1) := by decide +kernel
theorem d_Mo_count_7 : decode c_Mo_count 7 = .ok (.if_icmp .le 7, 3) := by decide +kernel
theorem d_Mo_count_10 : decode c_Mo_count 10 = .ok (.iconst 1, 1) := by decide +kernel
theorem d_Mo_count_11 : decode c_Mo_count 11 = .ok (.goto 4, 3) := by decide +kernel
theorem d_Mo_count_14 : decode c_Mo_count 14 = .ok (.iconst 0, 1) := by decide +kernel
theorem d_Mo_count_15 : decode c_Mo_count 15 = .ok (.putfield 55, 3) := by decide +kernel
theorem d_Mo_count_18 : decode c_Mo_count 18 = .ok (.iconst 0, 1) := by decide +kernel
theorem d_Mo_count_19 : decode c_Mo_count 19 = .ok (.istore_n 2, 1) := by decide +kernel
theorem d_Mo_count_20 : decode c_Mo_count 20 = .ok (.iconst 0, 1) := by decide +kernel
theorem d_Mo_count_21 : decode c_Mo_count 21 = .ok (.istore_n 3, 1) := by decide +kernel
theorem d_Mo_count_22 : decode c_Mo_count 22 = .ok (.iconst 0, 1) := by decide +kernel
theorem d_Mo_count_23 : decode c_Mo_count 23 = .ok (.istore 4, 2) := by decide +kernel
theorem d_Mo_count_25 : decode c_Mo_count 25 = .ok (.iload 4, 2) := by decide +kernel
theorem d_Mo_count_27 : decode c_Mo_count 27 = .ok (.aload_n 0, 1) := by decide +kernel
theorem d_Mo_count_28 : decode c_Mo_count 28 = .ok (.getfield 66, 3) := by decide +kernel
theorem d_Mo_count_31 : decode c_Mo_count 31 = .ok (.if_icmp .ge 75, 3) := by decide +kernel
theorem d_Mo_count_34 : decode c_Mo_count 34 = .ok (.iload_n 2, 1) := by decide +kernel
theorem d_Mo_count_35 : decode c_Mo_count 35 = .ok (.aload_n 0, 1) := by decide +kernel
theorem d_Mo_count_36 : decode c_Mo_count 36 = .ok (.getfield 26, 3) := by decide +kernel
theorem d_Mo_count_39 : decode c_Mo_count 39 = .ok (.iload 4, 2) := by decide +kernel
theorem d_Mo_count_41 : decode c_Mo_count 41 = .ok (.baload, 1) := by decide +kernel
theorem d_Mo_count_42 : decode c_Mo_count 42 = .ok (.ifCond .eq 7, 3) := by decide +kernel
theorem d_Mo_count_45 : decode c_Mo_count 45 = .ok (.iconst 0, 1) := by decide +kernel
theorem d_Mo_count_46 : decode c_Mo_count 46 = .ok (.goto 4, 3) := by decide +kernel
theorem d_Mo_count_49 : decode c_Mo_count 49 = .ok (.iconst 1, 1) := by decide +kernel
theorem d_Mo_count_50 : decode c_Mo_count 50 = .ok (.iadd, 1) := by decide +kernel
theorem d_Mo_count_51 : decode c_Mo_count 51 = .ok (.istore_n 2, 1) := by decide +kernel
theorem d_Mo_count_52 : decode c_Mo_count 52 = .ok (.iload_n 3, 1) := by decide +kernel
theorem d_Mo_count_53 : decode c_Mo_count 53 = .ok (.aload_n 0, 1) := by decide +kernel
theorem d_Mo_count_54 : decode c_Mo_count 54 = .ok (.getfield 26, 3) := by decide +kernel
theorem d_Mo_count_57 : decode c_Mo_count 57 = .ok (.iload 4, 2) := by decide +kernel
theorem d_Mo_count_59 : decode c_Mo_count 59 = .ok (.baload, 1) := by decide +kernel
theorem d_Mo_count_60 : decode c_Mo_count 60 = .ok (.ifCond .ne 37, 3) := by decide +kernel
theorem d_Mo_count_63 : decode c_Mo_count 63 = .ok (.aload_n 0, 1) := by decide +kernel
theorem d_Mo_count_64 : decode c_Mo_count 64 = .ok (.getfield 22, 3) := by decide +kernel
theorem d_Mo_count_67 : decode c_Mo_count 67 = .ok (.iload 4, 2) := by decide +kernel
theorem d_Mo_count_69 : decode c_Mo_count 69 = .ok (.baload, 1) := by decide +kernel
theorem d_Mo_count_70 : decode c_Mo_count 70 = .ok (.ifCond .eq 27, 3) := by decide +kernel
theorem d_Mo_count_73 : decode c_Mo_count 73 = .ok (.aload_n 0, 1) := by decide +kernel
theorem d_Mo_count_74 : decode c_Mo_count 74 = .ok (.getfield 7, 3) := by decide +kernel
theorem d_Mo_count_77 : decode c_Mo_count 77 = .ok (.iload 4, 2) := by decide +kernel
theorem d_Mo_count_79 : decode c_Mo_count 79 = .ok (.iaload, 1) := by decide +kernel
theorem d_Mo_count_80 : decode c_Mo_count 80 = .ok (.aload_n 0, 1) := by decide +kernel
theorem d_Mo_count_81 : decode c_Mo_count 81 = .ok (.getfield 80, 3) := by decide +kernel
theorem d_Mo_count_84 : decode c_Mo_count 84 = .ok (.if_icmp .ne 13, 3) := by decide +kernel
theorem d_Mo_count_87 : decode c_Mo_count 87 = .ok (.aload_n 0, 1) := by decide +kernel
theorem d_Mo_count_88 : decode c_Mo_count 88 = .ok (.getfield 19, 3) := by decide +kernel
theorem d_Mo_count_91 : decode c_Mo_count 91 = .ok (.iload 4, 2) := by decide +kernel
theorem d_Mo_count_93 : decode c_Mo_count 93 = .ok (.iaload, 1) := by decide +kernel
theorem d_Mo_count_94 : decode c_Mo_count 94 = .ok (.goto 4, 3) := by decide +kernel
theorem d_Mo_count_97 : decode c_Mo_count 97 = .ok (.iconst 0, 1) := by decide +kernel
theorem d_Mo_count_98 : decode c_Mo_count 98 = .ok (.iadd, 1) := by decide +kernel
theorem d_Mo_count_99 : decode c_Mo_count 99 = .ok (.istore_n 3, 1) := by decide +kernel
theorem d_Mo_count_100 : decode c_Mo_count 100 = .ok (.iinc 4 1, 3) := by decide +kernel
theorem d_Mo_count_103 : decode c_Mo_count 103 = .ok (.goto (-78), 3) := by decide +kernel
theorem d_Mo_count_106 : decode c_Mo_count 106 = .ok (.aload_n 0, 1) := by decide +kernel
theorem d_Mo_count_107 : decode c_Mo_count 107 = .ok (.getfield 55, 3) := by decide +kernel
theorem d_Mo_count_110 : decode c_Mo_count 110 = .ok (.ifCond .eq 5, 3) := by decide +kernel
theorem d_Mo_count_113 : decode c_Mo_count 113 = .ok (.iconst 0, 1) := by decide +kernel
theorem d_Mo_count_114 : decode c_Mo_count 114 = .ok (.ireturn, 1) := by decide +kernel
theorem d_Mo_count_115 : decode c_Mo_count 115 = .ok (.iload_n 1, 1) := by decide +kernel
theorem d_Mo_count_116 : decode c_Mo_count 116 = .ok (.tableswitch 49 0 3 #[32, 37, 39, 44], 32) := by decide +kernel
theorem d_Mo_count_148 : decode c_Mo_count 148 = .ok (.aload_n 0, 1) := by decide +kernel
theorem d_Mo_count_149 : decode c_Mo_count 149 = .ok (.getfield 66, 3) := by decide +kernel
theorem d_Mo_count_152 : decode c_Mo_count 152 = .ok (.ireturn, 1) := by decide +kernel
theorem d_Mo_count_153 : decode c_Mo_count 153 = .ok (.iload_n 2, 1) := by decide +kernel
theorem d_Mo_count_154 : decode c_Mo_count 154 = .ok (.ireturn, 1) := by decide +kernel
theorem d_Mo_count_155 : decode c_Mo_count 155 = .ok (.aload_n 0, 1) := by decide +kernel
theorem d_Mo_count_156 : decode c_Mo_count 156 = .ok (.invokevirtual 100, 3) := by decide +kernel
theorem d_Mo_count_159 : decode c_Mo_count 159 = .ok (.ireturn, 1) := by decide +kernel
theorem d_Mo_count_160 : decode c_Mo_count 160 = .ok (.aload_n 0, 1) := by decide +kernel
theorem d_Mo_count_161 : decode c_Mo_count 161 = .ok (.getfield 87, 3) := by decide +kernel
theorem d_Mo_count_164 : decode c_Mo_count 164 = .ok (.ireturn, 1) := by decide +kernel
theorem d_Mo_count_165 : decode c_Mo_count 165 = .ok (.iload_n 3, 1) := by decide +kernel
theorem d_Mo_count_166 : decode c_Mo_count 166 = .ok (.ireturn, 1) := by decide +kernel
set_option maxHeartbeats 4000000 in
set_option maxRecDepth 100000 in
theorem s_Mo_count (l : Launch) (g : Gx) (ws0 : va_W) (sz : Nat) {s : MS} {a1 : Int32} {res : (Int32 × MS)} (hR : ms_Rel g ws0 ws0 s) (h : fn_Mo_count s a1 = some res) : ct_MI l y_Mo_count c_Mo_count 5 (some .int) rm_Mo_count g ws0 sz [.ref (g.2.1 35), .int a1] res.1 (fun u => ms_Rel g ws0 u res.2) := by
  refine ct_starti (by decide +kernel) (Nat.le_of_ble_eq_true rfl) (fun p e sv m args below meth c ls Q A H locs C0 hret hl hw => ?_)
  have hx := C0.1
  have hb := C0.2.1
  have hown := C0.2.2.2.1
  have hts := C0.2.2.2.2.1
  have hl : lv_has ls 5 [(0, .ref (g.2.1 35)), (1, .int a1)] := hl
  have L25 : ∀ (n25 : Nat) (ws : va_W) (H : Heap) (locs : List Loc) (ls : Array Slot) (s : MS) (v2 : Int32) (v3 : Int32) (v4 : Int32), ct_Wd g A sv ws H locs → ms_Rel g ws0 ws s → lv_has ls 5 [(0, .ref (g.2.1 35)), (1, .int a1), (2, .int v2), (3, .int v3), (4, .int v4)] → bk_Mo_count_25 a1 n25 s v2 v3 v4 = some res → W p l e rm_Mo_count sv m args below meth c H locs 0 0 Q (F0 m 25 ls []) := by
    intro n25
    induction n25 with
    | zero =>
      intro ws H locs ls s v2 v3 v4 hw hR hl h
      exact absurd h (by simp [bk_Mo_count_25])
    | succ n25 ih25 =>
      have J98 : ∀ (ws : va_W) (H : Heap) (locs : List Loc) (ls : Array Slot) (s : MS) (t0 : Int32) (t1 : Int32) (v2 : Int32) (v4 : Int32), ct_Wd g A sv ws H locs → ms_Rel g ws0 ws s → lv_has ls 5 [(0, .ref (g.2.1 35)), (1, .int a1), (2, .int v2), (4, .int v4)] → bk_Mo_count_98 a1 (bk_Mo_count_25 a1 n25) s t0 t1 v2 v4 = some res → W p l e rm_Mo_count sv m args below meth c H locs 0 0 Q (F0 m 98 ls [.int t1, .int t0]) := by
        intro ws H locs ls s t0 t1 v2 v4 hw hR hl h
        unfold bk_Mo_count_98 at h
        refine lv_iadd hx hb d_Mo_count_98 ?_
        refine lv_topi (fun x1 e9 => ?_)
        have h := ct_nm_at h e9
        clear e9
        refine lv_istore_n (lv' := [(3, .int x1), (0, .ref (g.2.1 35)), (1, .int a1), (2, .int v2), (4, .int v4)]) hx hb d_Mo_count_99 rfl hl (by decide) rfl (fun ls hl => ?_)
        refine lv_iinc (v := v4 + 1) (k := 4) (lv' := [(4, .int (v4 + 1)), (3, .int x1), (0, .ref (g.2.1 35)), (1, .int a1), (2, .int v2)]) hx hb d_Mo_count_100 hl rfl rfl (by decide) rfl (fun ls hl => ?_)
        refine lv_goto hx hb (tgt := 25) d_Mo_count_103 (by decide) ?_
        exact ih25 ws H locs ls s v2 x1 (v4 + 1) hw hR (lv_sub hl [2, 3, 4, 1, 0] rfl) h
      have J50 : ∀ (ws : va_W) (H : Heap) (locs : List Loc) (ls : Array Slot) (s : MS) (t0 : Int32) (t1 : Int32) (v3 : Int32) (v4 : Int32), ct_Wd g A sv ws H locs → ms_Rel g ws0 ws s → lv_has ls 5 [(0, .ref (g.2.1 35)), (1, .int a1), (3, .int v3), (4, .int v4)] → bk_Mo_count_50 a1 (bk_Mo_count_25 a1 n25) s t0 t1 v3 v4 = some res → W p l e rm_Mo_count sv m args below meth c H locs 0 0 Q (F0 m 50 ls [.int t1, .int t0]) := by
        intro ws H locs ls s t0 t1 v3 v4 hw hR hl h
        unfold bk_Mo_count_50 at h
        refine lv_iadd hx hb d_Mo_count_50 ?_
        refine lv_topi (fun x2 e9 => ?_)
        have h := ct_nm_at h e9
        clear e9
        refine lv_istore_n (lv' := [(2, .int x2), (0, .ref (g.2.1 35)), (1, .int a1), (3, .int v3), (4, .int v4)]) hx hb d_Mo_count_51 rfl hl (by decide) rfl (fun ls hl => ?_)
        refine lv_iload_n hx hb d_Mo_count_52 rfl (lv_at hl 3 rfl) ?_
        refine lv_aload_n hx hb d_Mo_count_53 rfl (lv_at hl 1 rfl) ?_
        refine gf_Mo_26 C0 hw hR d_Mo_count_54 ?_
        refine lv_iload hx hb d_Mo_count_57 (lv_at hl 4 rfl) ?_
        obtain ⟨hg59, h⟩ := ct_gd_some h
        refine ct_ldma5 C0 hw hR (ct_inR_vp hg59) d_Mo_count_59 ?_
        refine lv_if_ne hx hb (tgt := 97) d_Mo_count_60 (by decide) (fun hc9 => ?_) (fun hc9 => ?_)
        · rw [if_pos hc9] at h
          refine lv_iconst (v := 0) hx hb d_Mo_count_97 (by decide) ?_
          exact J98 ws H locs ls s v3 0 x2 v4 hw hR (lv_sub hl [1, 2, 0, 4] rfl) h
        · rw [if_neg (fun q => q hc9)] at h
          refine lv_aload_n hx hb d_Mo_count_63 rfl (lv_at hl 1 rfl) ?_
          refine gf_Mo_22 C0 hw hR d_Mo_count_64 ?_
          refine lv_iload hx hb d_Mo_count_67 (lv_at hl 4 rfl) ?_
          obtain ⟨hg69, h⟩ := ct_gd_some h
          refine ct_ldma4 C0 hw hR (ct_inR_vp hg69) d_Mo_count_69 ?_
          refine lv_if_eq hx hb (tgt := 97) d_Mo_count_70 (by decide) (fun hc9 => ?_) (fun hc9 => ?_)
          · rw [if_pos hc9] at h
            refine lv_iconst (v := 0) hx hb d_Mo_count_97 (by decide) ?_
            exact J98 ws H locs ls s v3 0 x2 v4 hw hR (lv_sub hl [1, 2, 0, 4] rfl) h
          · rw [if_neg hc9] at h
            refine lv_aload_n hx hb d_Mo_count_73 rfl (lv_at hl 1 rfl) ?_
            refine gf_Mo_7 C0 hw hR d_Mo_count_74 ?_
            refine lv_iload hx hb d_Mo_count_77 (lv_at hl 4 rfl) ?_
            obtain ⟨hg79, h⟩ := ct_gd_some h
            refine ct_ldma0 C0 hw hR (ct_inR_vp hg79) d_Mo_count_79 ?_
            refine lv_aload_n hx hb d_Mo_count_80 rfl (lv_at hl 1 rfl) ?_
            refine gf_Mo_80 C0 hw hR d_Mo_count_81 ?_
            refine lv_icmp_ne hx hb (tgt := 97) d_Mo_count_84 (by decide) (fun hc9 => ?_) (fun hc9 => ?_)
            · rw [if_pos hc9] at h
              refine lv_iconst (v := 0) hx hb d_Mo_count_97 (by decide) ?_
              exact J98 ws H locs ls s v3 0 x2 v4 hw hR (lv_sub hl [1, 2, 0, 4] rfl) h
            · rw [if_neg (fun q => q hc9)] at h
              refine lv_aload_n hx hb d_Mo_count_87 rfl (lv_at hl 1 rfl) ?_
              refine gf_Mo_19 C0 hw hR d_Mo_count_88 ?_
              refine lv_iload hx hb d_Mo_count_91 (lv_at hl 4 rfl) ?_
              obtain ⟨hg93, h⟩ := ct_gd_some h
              refine ct_ldma3 C0 hw hR (ct_inR_vp hg93) d_Mo_count_93 ?_
              refine lv_goto hx hb (tgt := 98) d_Mo_count_94 (by decide) ?_
              exact J98 ws H locs ls s v3 (ms_A s 3 v4.toNatClampNeg) x2 v4 hw hR (lv_sub hl [1, 2, 0, 4] rfl) h
      intro ws H locs ls s v2 v3 v4 hw hR hl h
      have h : bk_Mo_count_25_o a1 (bk_Mo_count_25 a1 n25) s v2 v3 v4 = some res := h
      unfold bk_Mo_count_25_o at h
      refine lv_iload hx hb d_Mo_count_25 (lv_at hl 4 rfl) ?_
      refine lv_aload_n hx hb d_Mo_count_27 rfl (lv_at hl 0 rfl) ?_
      refine gf_Mo_66 C0 hw hR d_Mo_count_28 ?_
      refine lv_icmp_ge hx hb (tgt := 106) d_Mo_count_31 (by decide) (fun hc9 => ?_) (fun hc9 => ?_)
      · rw [if_pos hc9] at h
        refine lv_aload_n hx hb d_Mo_count_106 rfl (lv_at hl 0 rfl) ?_
        refine gf_Mo_55 C0 hw hR d_Mo_count_107 ?_
        refine lv_if_eq hx hb (tgt := 115) d_Mo_count_110 (by decide) (fun hc9 => ?_) (fun hc9 => ?_)
        · rw [if_pos hc9] at h
          refine lv_iload_n hx hb d_Mo_count_115 rfl (lv_at hl 1 rfl) ?_
          by_cases hk0 : a1 = 0
          · rw [if_pos hk0] at h
            refine lv_tableIn hx hb (tgt := 148) d_Mo_count_116 (by rw [hk0]; decide) (by rw [hk0]; decide) (by rw [hk0]; rfl) (by decide) ?_
            refine lv_aload_n hx hb d_Mo_count_148 rfl (lv_at hl 0 rfl) ?_
            refine gf_Mo_66 C0 hw hR d_Mo_count_149 ?_
            obtain rfl := Option.some.inj h
            exact hret hw hR d_Mo_count_152
          rw [if_neg hk0] at h
          by_cases hk1 : a1 = 1
          · rw [if_pos hk1] at h
            refine lv_tableIn hx hb (tgt := 153) d_Mo_count_116 (by rw [hk1]; decide) (by rw [hk1]; decide) (by rw [hk1]; rfl) (by decide) ?_
            refine lv_iload_n hx hb d_Mo_count_153 rfl (lv_at hl 2 rfl) ?_
            obtain rfl := Option.some.inj h
            exact hret hw hR d_Mo_count_154
          rw [if_neg hk1] at h
          by_cases hk2 : a1 = 2
          · rw [if_pos hk2] at h
            refine lv_tableIn hx hb (tgt := 155) d_Mo_count_116 (by rw [hk2]; decide) (by rw [hk2]; decide) (by rw [hk2]; rfl) (by decide) ?_
            refine lv_aload_n hx hb d_Mo_count_155 rfl (lv_at hl 0 rfl) ?_
            obtain ⟨x3, ho, h⟩ := ct_ob_some h
            refine ct_callVi C0 hw hl.1 (q0 := 35) (hR.1 35 (by decide) (by decide)) rfl (ct_giV wd_846 wd_848 sel_Mo_left wd_7 wd_849) (fun sz => s_Mo_left l g ws sz hR.rf ho) (nA := 0) (rm := rm_Mo_left) (by decide +kernel) rfl ⟨rfl, rfl⟩ (by decide) (by decide) (As := []) (rest := []) rfl (Nat.le_of_ble_eq_true rfl) d_Mo_count_156 (fun ws1 H locs hw hp => ?_)
            rw [hp] at hw
            clear hp
            obtain rfl := Option.some.inj h
            exact hret hw hR d_Mo_count_159
          rw [if_neg hk2] at h
          by_cases hk3 : a1 = 3
          · rw [if_pos hk3] at h
            refine lv_tableIn hx hb (tgt := 160) d_Mo_count_116 (by rw [hk3]; decide) (by rw [hk3]; decide) (by rw [hk3]; rfl) (by decide) ?_
            refine lv_aload_n hx hb d_Mo_count_160 rfl (lv_at hl 0 rfl) ?_
            refine gf_Mo_87 C0 hw hR d_Mo_count_161 ?_
            obtain rfl := Option.some.inj h
            exact hret hw hR d_Mo_count_164
          rw [if_neg hk3] at h
          refine lv_tableOut hx hb (tgt := 165) d_Mo_count_116 (by have e0 := lv_neT (a := 0) hk0 rfl; have e1 := lv_neT (a := 1) hk1 rfl; have e2 := lv_neT (a := 2) hk2 rfl; have e3 := lv_neT (a := 3) hk3 rfl; omega) (by decide) ?_
          refine lv_iload_n hx hb d_Mo_count_165 rfl (lv_at hl 3 rfl) ?_
          obtain rfl := Option.some.inj h
          exact hret hw hR d_Mo_count_166
        · rw [if_neg hc9] at h
          refine lv_iconst (v := 0) hx hb d_Mo_count_113 (by decide) ?_
          obtain rfl := Option.some.inj h
          exact hret hw hR d_Mo_count_114
      · rw [if_neg hc9] at h
        refine lv_iload_n hx hb d_Mo_count_34 rfl (lv_at hl 2 rfl) ?_
        refine lv_aload_n hx hb d_Mo_count_35 rfl (lv_at hl 0 rfl) ?_
        refine gf_Mo_26 C0 hw hR d_Mo_count_36 ?_
        refine lv_iload hx hb d_Mo_count_39 (lv_at hl 4 rfl) ?_
        obtain ⟨hg41, h⟩ := ct_gd_some h
        refine ct_ldma5 C0 hw hR (ct_inR_vp hg41) d_Mo_count_41 ?_
        refine lv_if_eq hx hb (tgt := 49) d_Mo_count_42 (by decide) (fun hc9 => ?_) (fun hc9 => ?_)
        · rw [if_pos hc9] at h
          refine lv_iconst (v := 1) hx hb d_Mo_count_49 (by decide) ?_
          exact J50 ws H locs ls s v2 1 v3 v4 hw hR (lv_sub hl [0, 1, 3, 4] rfl) h
        · rw [if_neg hc9] at h
          refine lv_iconst (v := 0) hx hb d_Mo_count_45 (by decide) ?_
          refine lv_goto hx hb (tgt := 50) d_Mo_count_46 (by decide) ?_
          exact J50 ws H locs ls s v2 0 v3 v4 hw hR (lv_sub hl [0, 1, 3, 4] rfl) h
  have J15 : ∀ (ws : va_W) (H : Heap) (locs : List Loc) (ls : Array Slot) (s : MS) (t1 : Int32), ct_Wd g A sv ws H locs → ms_Rel g ws0 ws s → lv_has ls 5 [(0, .ref (g.2.1 35)), (1, .int a1)] → bk_Mo_count_15 a1 s t1 = some res → W p l e rm_Mo_count sv m args below meth c H locs 0 0 Q (F0 m 15 ls [.int t1, .ref (g.2.1 35)]) := by
    intro ws H locs ls s t1 hw hR hl h
    unfold bk_Mo_count_15 at h
    refine pf_Mo_55 C0 hw hR d_Mo_count_15 (fun ws H locs hw hR => ?_)
    obtain ⟨s4, es9, h⟩ := ct_nm_ex h
    rw [← es9] at hR
    clear es9
    refine lv_iconst (v := 0) hx hb d_Mo_count_18 (by decide) ?_
    refine lv_istore_n (lv' := [(2, .int 0), (0, .ref (g.2.1 35)), (1, .int a1)]) hx hb d_Mo_count_19 rfl hl (by decide) rfl (fun ls hl => ?_)
    refine lv_iconst (v := 0) hx hb d_Mo_count_20 (by decide) ?_
    refine lv_istore_n (lv' := [(3, .int 0), (2, .int 0), (0, .ref (g.2.1 35)), (1, .int a1)]) hx hb d_Mo_count_21 rfl hl (by decide) rfl (fun ls hl => ?_)
    refine lv_iconst (v := 0) hx hb d_Mo_count_22 (by decide) ?_
    refine lv_istore (lv' := [(4, .int 0), (3, .int 0), (2, .int 0), (0, .ref (g.2.1 35)), (1, .int a1)]) hx hb d_Mo_count_23 hl (by decide) rfl (fun ls hl => ?_)
    exact L25 200 ws H locs ls s4 0 0 0 hw hR (lv_sub hl [3, 4, 2, 1, 0] rfl) h
  unfold fn_Mo_count at h
  obtain ⟨ws, hwe⟩ : ∃ z : va_W, z = ws0 := ⟨_, rfl⟩
  rw [← hwe] at hw
  have hR : ms_Rel g ws0 ws s := by rw [hwe]; exact hR
  clear hwe
  refine lv_aload_n hx hb d_Mo_count_0 rfl (lv_at hl 0 rfl) ?_
  refine lv_iload_n hx hb d_Mo_count_1 rfl (lv_at hl 1 rfl) ?_
  refine lv_if_lt hx hb (tgt := 10) d_Mo_count_2 (by decide) (fun hc9 => ?_) (fun hc9 => ?_)
  · rw [if_pos hc9] at h
    refine lv_iconst (v := 1) hx hb d_Mo_count_10 (by decide) ?_
    refine lv_goto hx hb (tgt := 15) d_Mo_count_11 (by decide) ?_
    exact J15 ws H locs ls s 1 hw hR (lv_sub hl [0, 1] rfl) h
  · rw [if_neg hc9] at h
    refine lv_iload_n hx hb d_Mo_count_5 rfl (lv_at hl 1 rfl) ?_
    refine lv_iconst (v := 4) hx hb d_Mo_count_6 (by decide) ?_
    refine lv_icmp_le hx hb (tgt := 14) d_Mo_count_7 (by decide) (fun hc9 => ?_) (fun hc9 => ?_)
    · rw [if_pos hc9] at h
      refine lv_iconst (v := 0) hx hb d_Mo_count_14 (by decide) ?_
      exact J15 ws H locs ls s 0 hw hR (lv_sub hl [0, 1] rfl) h
    · rw [if_neg hc9] at h
      refine lv_iconst (v := 1) hx hb d_Mo_count_10 (by decide) ?_
      refine lv_goto hx hb (tgt := 15) d_Mo_count_11 (by decide) ?_
      exact J15 ws H locs ls s 1 hw hR (lv_sub hl [0, 1] rfl) h

