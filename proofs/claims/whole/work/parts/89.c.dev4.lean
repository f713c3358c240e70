/-! deviation -/
theorem PPdeviation : PP_deviation Inv := by
  intro s t h a1 a2 h2
  obtain ⟨s1, s2, s3, s4, s5, s6, s7⟩ := nS_eq h.2.1
  have l2 : (2 : Int32).toInt = 2 := rfl
  have sz : (Int32.ofNat (nS s) - 2).toInt = nS s - 2 := by rw [Int32.toInt_sub, pi_of (by omega), l2, pa_bm32 (by omega) (by omega)]
  have cbad : fn_CT_check s 0 = some (.inl (1, s)) := rfl
  have x1 : fn_CT_check s 1 = some (.inr s) := rfl
  have mbad : ∀ v3, bk_Mo_deviation_22 a1 a2 t 1 v3 = some (0, ms_I' t 0 1) := fun _ => rfl
  unfold fn_CT_deviation fn_Mo_deviation
  rw [cS_eq h.2.1, ct_ob_s, mS_eq h, ct_ob_s, p_within, ct_ob_s, mbad]
  by_cases d1 : a1 < 0
  · have n : ¬ (¬ a1 < 0 ∧ ¬ Int32.ofNat (nS s) - 2 < a1) := fun q => q.1 d1
    rw [if_neg n, if_pos d1, cbad, ct_xb_l]
    exact ⟨_, _, _, rfl, rfl, agl_bad h⟩
  · by_cases d2 : a1 ≤ Int32.ofNat (nS s) - 2
    · have d3 : ¬ a1 < 0 ∧ ¬ Int32.ofNat (nS s) - 2 < a1 := ⟨d1, fun q => (Int32.not_lt.mpr d2) q⟩
      rw [if_pos d3, if_neg d1, if_pos d2, x1, ct_xb_r]
      rw [pi_lt32, l0] at d1
      rw [pi_le32, sz] at d2
      obtain ⟨j, rfl, j1, j2⟩ := pi_ex (x := a1) (by omega)
      have hj : j + 2 ≤ nS s := by omega
      obtain ⟨t', k1, k2, k3, k4⟩ := lk_look (h.thr (v := 0))
      obtain ⟨g, g1, g2⟩ := pr_all h.2.1 0
      have ok0 : fr_ok (0, 1, 0) := Or.inl ⟨rfl, by show (0 : Int64).toInt.natAbs ≤ _; decide, sp_11.2.1, sp_11.2.2⟩
      have u11 : va_up g 11 (0, 1, 0) 11 = (0, 1, 0) := va_up_self _ _ _
      obtain ⟨g', r1, r2, r3, r4⟩ := cd_loop h (j := j) hj (nS s - 1 - j) 200 0 0 (va_up g 11 (0, 1, 0)) (by omega) (by omega) (g2.up h.2.1 (by decide)) (ok_eq u11 ok0) (by omega)
      have r1' : bk_Re_toDeviation_12 (Int32.ofNat j) 200 (wF s (va_up g 11 (0, 1, 0))) 0 0 = some (wF s g') := r1
      have r4' : fv (g' 8) = dV (ctT s j 0 (nS s - 1 - j) 0) (dvA s j 0 (nS s - 1 - j) (av_int 0) 0).1 := by
        rw [r4, u11, dvA_ct]
        rfl
      unfold fn_Re_toDeviation bk_Mo_deviation_22
      rw [g1, ct_ob_s, pf_whole, ct_ob_s, wF_put, r1', ct_ob_s, xb2_inr, ct_nm_eq, ms_I_self, if_pos rfl, k1, ct_ob_s]
      have bad : ∀ t3, Inv s t3 → (udT s j 0 (nS s - 1 - j) = true ∨ ctT s j 0 (nS s - 1 - j) 0 ≤ 1) → ∃ o r t9, fn_CT_partOfAnswer (wF s g') a2 = some o ∧ fn_Mo_told t3 2 a2 = some (r, t9) ∧ AgL Inv (fun k => k = 1 ∨ k = 3 ∨ k = 4) o r t9 := by
        intro t3 hI hb
        have v2 := dV_2 (v := av_int 0) (Nat.zero_le 2) hb
        have key := told_ok (s := s) (g := g') (t := t3) (a3 := a2) (hI.wF r2.1) r3 (fun q => by rw [r4', v2] at q; exact absurd q (by decide))
        rw [r4', cd_2 v2] at key
        exact key
      rcases fi_find k2 0 (j := j) hj with ⟨f1, f2⟩ | ⟨f1, x, y, f2, f3, f4⟩
      · rw [f2, ct_ob2_s]
        have w' : bk_Mo_deviation_52 (Int32.ofNat j) a2 200 t' (Int32.ofNat (nS s)) 0 0 0 = fn_Mo_told t' 2 a2 := m0_loop hj a2 k2 (nS s - 1 - j) 200 0 0 (by omega) (by omega)
        rw [w']
        refine bad t' k2.1 ?_
        rcases Nat.lt_or_ge 0 (ctT s j 0 (nS s - 1 - j) 0) with q | q
        · exact Or.inl (ctT_ud f1 _ _ _ q)
        · exact Or.inr (by omega)
      · have hm : me t' (ms_L' (ms_L' t' 4 x) 5 y) := me.L.tr me.L
        have hk := k2.mq hm.mq
        have w' : bk_Mo_deviation_52 (Int32.ofNat j) a2 200 (ms_L' (ms_L' t' 4 x) 5 y) (Int32.ofNat (nS s)) 1 0 0 = _ := m1_loop hj a2 hk f1 (nS s - 1 - j) 200 0 0 (by omega) (by omega) (by omega)
        rw [f2, ct_ob2_s, w']
        by_cases cu : udT s j 0 (nS s - 1 - j) = false ∧ 2 ≤ ctT s j 0 (nS s - 1 - j) 0
        · have bd := ctT_bd (s := s) (j := j) (nS s - 1 - j) 0 0
          have e4 : ms_L (ms_L' (ms_L' t' 4 x) 5 y) 4 = x := (ms_L_ne (by decide)).trans ms_L_self
          have e5 : ms_L (ms_L' (ms_L' t' 4 x) 5 y) 5 = y := ms_L_self
          obtain ⟨t3, y1, y2, y3⟩ := mf_loop (s := s) (j := j) (R := ctT s j 0 (nS s - 1 - j) 0) hj cu.2 (by omega) a2 (nS s - 1 - j) 200 0 0 (ms_L' (ms_L' t' 4 x) 5 y) 0 1 (by omega) hk k4 (by rw [e4, e5]; exact f4) (by rw [e4, e5]; exact f3) ⟨by show (0 : Int64).toInt.natAbs ≤ _; decide, sp_11.2.1, sp_11.2.2⟩ (Or.inl rfl) cu.1 rfl (by omega)
          have y2' : bk_Mo_deviation_136 (Int32.ofNat j) a2 200 (ms_L' (ms_L' t' 4 x) 5 y) (Int32.ofNat (nS s)) (Int32.ofNat (ctT s j 0 (nS s - 1 - j) 0)) 0 1 0 = fn_Mo_told t3 (cd (dV (ctT s j 0 (nS s - 1 - j) 0) (dvA s j 0 (nS s - 1 - j) (av_int 0) 0).1)) a2 := y2
          have key := told_ok (s := s) (g := g') (t := t3) (a3 := a2) ((k2.1.mq (hm.tr y1).mq).wF r2.1) r3 (fun q => by rw [r4'] at q ⊢; exact y3 q)
          rw [r4'] at key
          rw [if_pos cu, y2']
          exact key
        · rw [if_neg cu]
          refine bad _ hk.1 ?_
          by_cases c : udT s j 0 (nS s - 1 - j) = true
          · exact Or.inl c
          · have n2 : ¬ 2 ≤ ctT s j 0 (nS s - 1 - j) 0 := fun q => cu ⟨Bool.eq_false_iff.mpr c, q⟩
            exact Or.inr (by omega)
    · have n : ¬ (¬ a1 < 0 ∧ ¬ Int32.ofNat (nS s) - 2 < a1) := fun q => d2 (Int32.not_lt.mp q.2)
      rw [if_neg n, if_neg d1, if_neg d2, cbad, ct_xb_l]
      exact ⟨_, _, _, rfl, rfl, agl_bad h⟩
