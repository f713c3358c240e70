/-! error -/
def errA (s : CS) (m : Int32) (i : Nat) : AV := av_plus (av_times (chA (lnk s m) (nS s - 1 - i) (nH s) (av_int 1)) (av_int (lat s i).toInt)) (av_int (-(cs_R s i (nZ s - 1 - i))).toInt)
theorem er_sz {s : CS} (hr : iR s) {i : Nat} (h1 : nH s ≤ i) (h2 : i < nS s) : (Int32.ofNat (nZ s) - 2 - Int32.ofNat i).toInt = ((nS s - 1 - i : Nat) : Int) + (nH s : Nat) - 1 := by
  obtain ⟨s1, s2, s3, s4, s5, s6, s7⟩ := nS_eq hr
  have l2 : (2 : Int32).toInt = 2 := rfl
  have e1 : (Int32.ofNat (nZ s) - 2).toInt = (nZ s : Int) - 2 := by rw [Int32.toInt_sub, pi_of (by omega), l2, pa_bm32 (by omega) (by omega)]
  rw [Int32.toInt_sub, e1, pi_of (by omega), pa_bm32 (by omega) (by omega)]
  omega
theorem c_err {s : CS} {t : MS} (h : Inv s t) {m : Int32} {g : Nat → Int64 × Int64 × Int32} (hp : Prp s m g) {i : Nat} (h1 : nH s ≤ i) (h2 : i < nS s) : ∃ g', fn_Re_toError (wF s g) (Int32.ofNat i) = some (wF s g') ∧ Prp s m g' ∧ fr_ok (g' 8) ∧ fv (g' 8) = errA s m i := by
  have hr := h.2.1
  obtain ⟨s1, s2, s3, s4, s5, s6, s7⟩ := nS_eq hr
  obtain ⟨z1, z2, z3, z4⟩ := nZ_eq hr
  have sh : ∀ g, fn_Tr_shown (wF s g) = some (Int32.ofNat (nS s)) := fun g => cS_eq hr
  obtain ⟨y, y1, y2, y3⟩ := ch_all hr (a := nS s - 1 - i) (d := nH s) hp (by omega) (er_sz hr h1 h2)
  have u8 : va_up g 8 y 8 = y := va_up_self _ _ _
  obtain ⟨g1, a1, a2, a3, a4⟩ := cw_timesW (s := s) (g := va_up g 8 y) (v := (lat s i).toInt64) (ok_eq u8 y2) (i64_bd _)
  obtain ⟨g2, b1, b2, b3, b4⟩ := cw_plusW (s := s) (g := g1) (v := (-(cs_R s i (nZ s - 1 - i))).toInt64) a3 (i64_bd _)
  have e64 : (lat s i).toInt64.toInt = (lat s i).toInt := Int32.toInt_toInt64 _
  have f64 : (-(cs_R s i (nZ s - 1 - i))).toInt64.toInt = (-(cs_R s i (nZ s - 1 - i))).toInt := Int32.toInt_toInt64 _
  have i4 : ∀ g, cs_I (wF s g) 4 = Int32.ofNat (nZ s) := fun g => z1
  have iR' : ∀ g a b, cs_R (wF s g) a b = cs_R s a b := fun g a b => rfl
  refine ⟨g2, ?_, ((hp.up hr (by decide)).qf hr a2).qf hr b2, b3, ?_⟩
  · unfold fn_Re_toError
    rw [sh, ct_ob_s, i4, pi_sub1 s4, pi_sub (by omega), y1, ct_ob_s, c_lat hr h2, ct_ob_s, a1, i4, pi_sub1 z2, pi_sub (by omega), pi_inR (show i < 6 by omega) (by omega), ct_gd_t, pi_inR (show nZ s - 1 - i < 6 by omega) (by omega), ct_gd_t, pi_cl (by omega), pi_cl (by omega), iR', b1]
  · rw [b4, a4, u8, y3, e64, f64]
    rfl
theorem PPerror : PP_error Inv := by
  intro s t h a1 a2 a3 h3
  obtain ⟨s1, s2, s3, s4, s5, s6, s7⟩ := nS_eq h.2.1
  obtain ⟨z1, z2, z3, z4⟩ := nZ_eq h.2.1
  have cbad : bk_CT_error_35 a1 a2 a3 s 0 = some (.inl (1, s)) := rfl
  have mbad : ∀ x, bk_Mo_error_35 a1 a2 a3 t 1 x = some (0, ms_I' t 0 1) := fun x => rfl
  have x1 : fn_CT_check s 1 = some (.inr s) := rfl
  unfold fn_CT_error fn_Mo_error
  rw [cbad, cS_eq h.2.1, ct_ob_s, mS_eq h, ct_ob_s, mbad, p_within, ct_ob_s, ← h.1.2.2.2.2.2.1]
  by_cases ca : okA a1
  · obtain ⟨c1, c2, c3⟩ := (p_chain a1).1 ca
    rw [c1, ct_ob_s, if_neg pf_one0, if_neg c2, if_neg c3, pi_sub1 s4]
    by_cases d1 : a2 < cs_I s 5
    · have n : ¬ (¬ a2 < cs_I s 5 ∧ ¬ Int32.ofNat (nS s - 1) < a2) := fun q => q.1 d1
      rw [if_neg n, if_pos rfl, if_pos d1]
      exact ⟨_, _, _, rfl, rfl, agl_bad h⟩
    · have d1' := d1
      rw [pi_lt32, s1, pi_of (by omega)] at d1'
      obtain ⟨i, rfl, i1, i2⟩ := pi_ex (x := a2) (by omega)
      have e1 : Int32.ofNat (nS s - 1) < Int32.ofNat i ↔ nS s - 1 < i := pi_lt (by omega) (by omega)
      have e2 : Int32.ofNat i < Int32.ofNat (nS s) ↔ i < nS s := pi_lt (by omega) (by omega)
      by_cases d2 : i < nS s
      · have y : ¬ Int32.ofNat i < cs_I s 5 ∧ ¬ Int32.ofNat (nS s - 1) < Int32.ofNat i := ⟨d1, fun q => by have := e1.mp q; omega⟩
        rw [if_pos y, if_neg pf_one0, if_neg d1, if_pos (e2.mpr d2)]
        have hh : nH s ≤ i := by omega
        obtain ⟨g, g1, g2⟩ := pr_all h.2.1 a1
        obtain ⟨t', k1, k2, k3, k4⟩ := lk_look (h.thr (v := 0))
        obtain ⟨g', c1', c2', c4, c5⟩ := c_err h g2 hh d2
        have hsz := er_sz h.2.1 hh d2
        obtain ⟨t1, b1, b2, b3⟩ := ad_all (m := a1) (a := nS s - 1 - i) (d := nH s) k2 (by omega) hsz
        have i5 : ∀ t'', mq t' t'' → ms_I t'' 5 = Int32.ofNat (nZ s) := fun t'' q => (k2.1.mq q).1.2.2.2.2.1.symm.trans z1
        unfold bk_CT_error_35 bk_Mo_error_35
        rw [x1, ct_xb_r, g1, ct_ob_s, c1', ct_ob_s, xb2_inr, ct_nm_eq, ms_I_self, if_pos rfl, k1, ct_ob_s, ct_nm_eq, ct_nm_eq, i5 t' mq.rf, pi_sub1 s4, pi_sub (by omega), b1, ct_ob2_s]
        by_cases cu : udf (lnk s a1) (nS s - 1 - i) (nH s) = false
        · have L1 : Lk s t1 := k2.mq b2.mq
          obtain ⟨t2, w1, w2, w3, w4, w5, w6⟩ := wy_all L1 (b3.trans k4) cu (by omega) hsz
          have L2 : Lk s t2 := L1.mq w2.mq
          have e64 : (lat s i).toInt64.toInt = (lat s i).toInt := Int32.toInt_toInt64 _
          have f64 : (-(cs_R s i (nZ s - 1 - i))).toInt64.toInt = (-(cs_R s i (nZ s - 1 - i))).toInt := Int32.toInt_toInt64 _
          obtain ⟨t3, p1, p2, p3, p4⟩ := pm_times (s := t2) (c := (lat s i).toInt64) (d := 1) w5 ⟨i64_bd _, sp_11.2.1, sp_11.2.2⟩
          have m3 : me t' t3 := (b2.tr w2).tr p4.me
          have L3 : Lk s t3 := k2.mq m3.mq
          obtain ⟨t4, r1, r2, r3, r4⟩ := pm_plus (s := t3) (c := (-(cs_R s i (nZ s - 1 - i))).toInt64) (d := 1) p2 ⟨i64_bd _, sp_11.2.1, sp_11.2.2⟩
          have ev : mv t4 = errA s a1 i := by
            rw [r3, p3, w6, e64, f64]
            rfl
          have m4 : me t' t4 := m3.tr r4.me
          have ac := L3.2 i (nZ s - 1 - i) (by omega)
          have key := told_ok (s := s) (g := g') (t := t4) (a3 := a3) ((k2.1.mq m4.mq).wF c2'.1) c4 (fun q => by rw [c5] at q ⊢; exact mv_parts (fun _ => ⟨r2, ev⟩) q)
          rw [if_pos cu, if_pos pf_one0, w1, ct_ob_s, m_lat L2 d2, ct_ob_s, p1, ct_ob_s, i5 t3 m3.mq, pi_6, pi_sub1 (by omega), pi_sub (by omega), show 6 * i + nZ s - 1 - i = 6 * i + (nZ s - 1 - i) by omega, pi_inR (show 6 * i + (nZ s - 1 - i) < 36 by omega) (by omega), ct_gd_t, pi_cl (by omega), ac, r1, ct_ob_s, an_ok r2, ct_ob_s, ob2_some, ev]
          rw [c5] at key
          exact key
        · have cu' : udf (lnk s a1) (nS s - 1 - i) (nH s) = true := by
            cases hq : udf (lnk s a1) (nS s - 1 - i) (nH s)
            · exact absurd hq cu
            · rfl
          have c2 : (chA (lnk s a1) (nS s - 1 - i) (nH s) (av_int 1)).1 = 2 := chA_udf (lnk_le s a1) _ _ _ (Nat.zero_le 2) cu'
          have w2 : (av_times (chA (lnk s a1) (nS s - 1 - i) (nH s) (av_int 1)) (av_int (lat s i).toInt)).1 = 2 := av_op_2 (by omega) (Nat.zero_le 2) (Or.inl c2)
          have u2 : (errA s a1 i).1 = 2 := av_op_2 (by omega) (Nat.zero_le 2) (Or.inl w2)
          have z00 : ¬ ¬ (0 : Int32) = 0 := fun q => q rfl
          have key := told_ok (s := s) (g := g') (t := t1) (a3 := a3) ((k2.1.mq b2.mq).wF c2'.1) c4 (fun q => by rw [c5, u2] at q; exact absurd q (by decide))
          rw [c5, cd_2 u2] at key
          rw [if_neg cu, if_neg z00, ob2_some]
          exact key
      · have y : ¬ (¬ Int32.ofNat i < cs_I s 5 ∧ ¬ Int32.ofNat (nS s - 1) < Int32.ofNat i) := fun q => q.2 (e1.mpr (by omega))
        rw [if_neg y, if_pos rfl, if_neg d1, if_neg (fun q => d2 (e2.mp q))]
        exact ⟨_, _, _, rfl, rfl, agl_bad h⟩
  · obtain ⟨c1, c2⟩ := (p_chain a1).2 ca
    rw [c1, ct_ob_s, if_pos rfl]
    by_cases c3 : a1 < 0
    · rw [if_pos c3]
      exact ⟨_, _, _, rfl, rfl, agl_bad h⟩
    · have c4 : 1 < a1 := by rcases c2 with q | q; exact absurd q c3; exact q
      rw [if_neg c3, if_pos c4]
      exact ⟨_, _, _, rfl, rfl, agl_bad h⟩
