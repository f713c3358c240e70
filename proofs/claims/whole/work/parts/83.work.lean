/-! the reference's work -/
theorem m_lat {s : CS} {t : MS} (h : Lk s t) {i : Nat} (hi : i < nS s) : fn_Mo_latestOf t (Int32.ofNat i) = some (lat s i) := by
  obtain ⟨s1, s2, s3, s4, s5, s6, s7⟩ := nS_eq h.1.2.1
  unfold fn_Mo_latestOf
  have a1 := h.2 i (nS s - 1 - i) (by omega)
  rw [mS_eq h.1, ct_ob_s, pi_6, pi_sub1 (by omega), pi_sub (by omega), show 6 * i + nS s - 1 - i = 6 * i + (nS s - 1 - i) by omega, pi_inR (show 6 * i + (nS s - 1 - i) < 36 by omega) (by omega), ct_gd_t, pi_cl (by omega), a1]
  rfl
theorem an_ok {t : MS} (h : mo_ok t) : fn_Mo_answer t = some (cd (mv t)) := by
  unfold fn_Mo_answer mv
  by_cases c : ms_I t 8 = 0
  · rw [if_pos c, if_pos c]
    rfl
  · rw [if_neg c, if_neg c]
    rfl
theorem lnk_by {s : CS} {m : Int32} (h : ¬ m = 1) : lnk s m = lnk s 0 := by
  funext j
  have e : wnd s m = wnd s 0 := by
    unfold wnd
    rw [if_neg h, if_neg (by decide)]
  unfold lnk
  rw [e]
theorem cd_2 {v : AV} (h : v.1 = 2) : cd v = 2 := by
  unfold cd
  rw [h]
  rfl
theorem av_neg_st (x : AV) : (av_neg x).1 = x.1 := by
  unfold av_neg
  by_cases c : x.1 = 0
  · rw [if_pos c]; exact c.symm
  · rw [if_neg c]
theorem av_inv_st {x : AV} (h : x.1 = 2 ∨ x.1 = 0 ∧ x.2.1 = 0) : (av_inv x).1 = 2 := by
  unfold av_inv
  rcases h with h | ⟨h1, h2⟩
  · rw [if_neg (by omega)]; exact h
  · rw [if_pos h1, if_pos h2]
theorem tl_le {s : CS} {t : MS} (h : Inv s t) : (fv (cs_F s 2)).1 ≤ 2 := by
  rw [(tl_ok h (by decide)).2.1]
  exact Nat.zero_le 2
theorem lnk_le (s : CS) (m : Int32) (j : Nat) : (lnk s m j).1 ≤ 2 := by
  have := lnk_st s m j
  omega
theorem ult_2 {s : CS} {t : MS} (h : Inv s t) {m : Int32} {i : Nat} (hi : i < 6) (m2 : ¬ m = 2) (hw : (wayA s m i).1 = 2 ∨ m = 3 ∧ (wayA s m i).1 = 0 ∧ (wayA s m i).2.1 = 0) : (ultA s m i).1 = 2 := by
  unfold ultA
  rw [if_neg m2]
  have ex0 : (exA s i).1 ≤ 2 := by rw [(exA_fine h hi).1]; exact Nat.zero_le 2
  by_cases m3 : m = 3
  · rw [if_pos m3]
    have i2 : (av_neg (av_inv (wayA s m i))).1 = 2 := by
      rw [av_neg_st]
      exact av_inv_st (by rcases hw with q | q; exact Or.inl q; exact Or.inr q.2)
    have p2 : (av_plus (av_neg (av_inv (wayA s m i))) (av_int 1)).1 = 2 := av_op_2 (by omega) (Nat.zero_le 2) (Or.inl i2)
    have t2 : (av_times (av_plus (av_neg (av_inv (wayA s m i))) (av_int 1)) (exA s i)).1 = 2 := av_op_2 (by omega) ex0 (Or.inl p2)
    exact av_op_2 (by omega) (Nat.zero_le 2) (Or.inl t2)
  · rw [if_neg m3]
    have w2 : (wayA s m i).1 = 2 := by
      rcases hw with q | q
      · exact q
      · exact absurd q.1 m3
    exact av_op_2 (by omega) (Nat.zero_le 2) (Or.inl w2)
theorem m_135 {s : CS} {t : MS} (h : Lk s t) {m : Int32} {i : Nat} (hi : i < nS s) (ho : mo_ok t) (hz : ms_I t 8 = 0 → (ms_L t 0).toInt ≠ 0) (hx : (0, (ms_L t 2).toInt, (ms_L t 3).toInt) = exA s i) : ∃ t', bk_Mo_work_135 m (Int32.ofNat i) t = some (cd (mv t'), t') ∧ me t t' ∧ mo_ok t' ∧ mv t' = av_plus (av_times (av_plus (av_neg (av_inv (mv t))) (av_int 1)) (exA s i)) (av_int (lat s i).toInt) := by
  obtain ⟨s1, s2, s3, s4, s5, s6, s7⟩ := nS_eq h.1.2.1
  obtain ⟨t1, a1, a2, a3, a4⟩ := pm_turn ho hz
  obtain ⟨b2, b3, b4⟩ := pm_neg a2
  obtain ⟨t3, c1, c2, c3, c4⟩ := pm_plus (s := ms_L' t1 0 (-(ms_L t1 0))) (c := 1) (d := 1) b2 sp_11
  have f2 : ms_L t3 2 = ms_L t 2 := (c4.2.2 2 (by decide) (by decide)).trans ((b4.2.2 2 (by decide) (by decide)).trans (a4.2.2 2 (by decide) (by decide)))
  have f3 : ms_L t3 3 = ms_L t 3 := (c4.2.2 3 (by decide) (by decide)).trans ((b4.2.2 3 (by decide) (by decide)).trans (a4.2.2 3 (by decide) (by decide)))
  have okx : sp_ok (ms_L t3 2).toInt (ms_L t3 3).toInt := by
    have q := (exA_fine h.1 (show i < 6 by omega)).2
    rw [← hx] at q
    rw [f2, f3]
    exact q
  obtain ⟨t4, d1, d2, d3, d4⟩ := pm_times (s := t3) (c := ms_L t3 2) (d := ms_L t3 3) c2 okx
  have m4 : me t t4 := ((a4.me.tr b4.me).tr c4.me).tr d4.me
  have e64 : (lat s i).toInt64.toInt = (lat s i).toInt := Int32.toInt_toInt64 _
  obtain ⟨t5, e1, e2, e3, e4⟩ := pm_plus (s := t4) (c := (lat s i).toInt64) (d := 1) d2 ⟨i64_bd _, sp_11.2.1, sp_11.2.2⟩
  refine ⟨t5, ?_, m4.tr e4.me, e2, ?_⟩
  · unfold bk_Mo_work_135
    rw [a1, ct_ob_s, ct_nm_eq, c1, ct_ob_s, d1, ct_ob_s, m_lat (h.mq m4.mq) hi, ct_ob_s, e1, ct_ob_s, an_ok e2, ct_ob_s]
  · have l1 : (1 : Int64).toInt = 1 := rfl
    rw [e3, d3, c3, b3, a3, e64, l1, f2, f3, hx]
    rfl
theorem m_work {s : CS} {t : MS} (h : Lk s t) (m : Int32) {i : Nat} (hi : i < nS s) : ∃ t', fn_Mo_work t m (Int32.ofNat i) = some (cd (ultA s m i), t') ∧ me t t' ∧ (¬ (ultA s m i).1 = 2 → mo_ok t' ∧ mv t' = ultA s m i) := by
  obtain ⟨s1, s2, s3, s4, s5, s6, s7⟩ := nS_eq h.1.2.1
  have l2 : (2 : Int32).toInt = 2 := rfl
  have sz : (Int32.ofNat (nS s) - 2).toInt = ((nS s - 1 - i : Nat) : Int) + (i : Nat) - 1 := by rw [Int32.toInt_sub, pi_of (by omega), l2, pa_bm32 (by omega) (by omega)]; omega
  have h2 : Lk s (ms_I' t 8 0) := h.mq mq.I8
  have h28 : ms_I (ms_I' t 8 0) 8 = 0 := ms_I_self
  unfold fn_Mo_work
  rw [mS_eq h.1, ct_ob_s, ct_nm_eq]
  by_cases m2 : m = 2
  · obtain ⟨t1, a1, a2, a3, a4, a5, a6⟩ := ex_m h2.1 h28 (show i < 6 by omega)
    have eu : ultA s m i = exA s i := if_pos m2
    refine ⟨t1, ?_, me.I8.tr a2, fun _ => ⟨a4, a5.trans eu.symm⟩⟩
    rw [if_neg (fun q => q m2), a1, ct_ob_s, an_ok a4, ct_ob_s, a5, eu]
  · rw [if_pos m2]
    have main : ∀ b : Int32, lnk s b = lnk s m → ∃ t', bk_Mo_work_35 m (Int32.ofNat i) (ms_I' t 8 0) b (Int32.ofNat (nS s)) = some (cd (ultA s m i), t') ∧ me t t' ∧ (¬ (ultA s m i).1 = 2 → mo_ok t' ∧ mv t' = ultA s m i) := by
      intro b hb
      unfold bk_Mo_work_35
      obtain ⟨t1, a1, a2, a3⟩ := ad_all (m := b) (a := nS s - 1 - i) (d := i) h2 (by omega) sz
      rw [pi_sub1 (by omega), pi_sub (by omega), a1, ct_ob2_s]
      have h81 : ms_I t1 8 = 0 := a3.trans h28
      have L1 : Lk s t1 := h2.mq a2.mq
      by_cases cu : udf (lnk s b) (nS s - 1 - i) i = false
      · have fin : ∀ t2, Lk s t2 → ms_I t2 8 = 0 → me t t2 → (m = 3 → (0, (ms_L t2 2).toInt, (ms_L t2 3).toInt) = exA s i) → ∃ t', bk_Mo_work_66 m (Int32.ofNat i) t2 (Int32.ofNat (nS s)) b = some (cd (ultA s m i), t') ∧ me t t' ∧ (¬ (ultA s m i).1 = 2 → mo_ok t' ∧ mv t' = ultA s m i) := by
          intro t2 L2 h82 m2' hx
          obtain ⟨t3, b1, b2, b3, b4, b5, b6⟩ := wy_all L2 h82 cu (by omega) sz
          have L3 : Lk s t3 := L2.mq b2.mq
          obtain ⟨-, k2, k3⟩ := tl_ok L3.1 (k := 2) (by decide)
          obtain ⟨t4, c1, c2, c3, c4⟩ := pm_times (s := t3) (c := ms_B t3 0 2) (d := ms_B t3 1 2) b5 k3
          have L4 : Lk s t4 := L3.mq c4.mq
          have ew : mv t4 = wayA s m i := by
            rw [c3, b6, hb, ← k2]
            rfl
          have m4 : me t t4 := (m2'.tr b2).tr c4.me
          have x2 : (2 : Int32).toNatClampNeg = 2 := rfl
          have i2 : ct_inR 2 3 = true := rfl
          unfold bk_Mo_work_66
          rw [pi_sub1 (by omega), pi_sub (by omega), b1, ct_ob_s, i2, ct_gd_t, ct_gd_t, x2, c1, ct_ob_s]
          by_cases m3 : m = 3
          · have hx' : (0, (ms_L t4 2).toInt, (ms_L t4 3).toInt) = exA s i := by
              rw [c4.2.2 2 (by decide) (by decide), c4.2.2 3 (by decide) (by decide), b3, b4]
              exact hx m3
            have eu : ultA s m i = av_plus (av_times (av_plus (av_neg (av_inv (wayA s m i))) (av_int 1)) (exA s i)) (av_int (lat s i).toInt) := by
              unfold ultA
              rw [if_neg m2, if_pos m3]
            rw [if_pos m3]
            by_cases c8 : ms_I t4 8 = 0
            · rw [if_neg (fun q => q c8)]
              by_cases cz : (ms_L t4 0).toInt = 0
              · have ew' : wayA s m i = (0, (ms_L t4 0).toInt, (ms_L t4 1).toInt) := by
                  rw [← ew]
                  unfold mv
                  rw [if_pos c8]
                have u2 : (ultA s m i).1 = 2 := ult_2 h.1 (by omega) m2 (Or.inr ⟨m3, by rw [ew'], by rw [ew']; exact cz⟩)
                rw [if_neg (fun q => q ((pf_eq0 _).mpr cz)), cd_2 u2]
                exact ⟨t4, rfl, m4, fun q => by omega⟩
              · obtain ⟨t5, d1, d2, d3, d4⟩ := m_135 L4 (m := m) hi c2 (fun _ => cz) hx'
                rw [if_pos (fun q => cz ((pf_eq0 _).mp q)), d1]
                have ed : mv t5 = ultA s m i := by rw [d4, ew, eu]
                exact ⟨t5, by rw [ed], m4.tr d2, fun _ => ⟨d3, ed⟩⟩
            · obtain ⟨t5, d1, d2, d3, d4⟩ := m_135 L4 (m := m) hi c2 (fun q => absurd q c8) hx'
              rw [if_pos c8, d1]
              have ed : mv t5 = ultA s m i := by rw [d4, ew, eu]
              exact ⟨t5, by rw [ed], m4.tr d2, fun _ => ⟨d3, ed⟩⟩
          · have eu : ultA s m i = av_times (wayA s m i) (av_int (lat s i).toInt) := by
              unfold ultA
              rw [if_neg m2, if_neg m3]
            have e64 : (lat s i).toInt64.toInt = (lat s i).toInt := Int32.toInt_toInt64 _
            obtain ⟨t5, d1, d2, d3, d4⟩ := pm_times (s := t4) (c := (lat s i).toInt64) (d := 1) c2 ⟨i64_bd _, sp_11.2.1, sp_11.2.2⟩
            have ed : mv t5 = ultA s m i := by
              rw [d3, ew, eu, e64]
              rfl
            rw [if_neg m3, m_lat L4 hi, ct_ob_s, d1, ct_ob_s, an_ok d2, ct_ob_s]
            exact ⟨t5, by rw [ed], m4.tr d4.me, fun _ => ⟨d2, ed⟩⟩
        rw [if_pos cu, if_pos pf_one0]
        by_cases m3 : m = 3
        · obtain ⟨t2, x1, x2, x3, x4, x5, x6⟩ := ex_m L1.1 h81 (show i < 6 by omega)
          rw [if_neg (fun q => q m3), x1, ct_ob_s]
          exact fin t2 (L1.mq x2.mq) x3 ((me.I8.tr a2).tr x2) (fun _ => x6)
        · rw [if_pos m3]
          exact fin t1 L1 h81 (me.I8.tr a2) (fun q => absurd q m3)
      · have cu' : udf (lnk s m) (nS s - 1 - i) i = true := by
          rw [← hb]
          cases hq : udf (lnk s b) (nS s - 1 - i) i
          · exact absurd hq cu
          · rfl
        have c2 : (chA (lnk s m) (nS s - 1 - i) i (av_int 1)).1 = 2 := chA_udf (lnk_le s m) i _ _ (Nat.zero_le 2) cu'
        have w2 : (wayA s m i).1 = 2 := av_op_2 (by omega) (tl_le h.1) (Or.inl c2)
        have u2 : (ultA s m i).1 = 2 := ult_2 h.1 (by omega) m2 (Or.inl w2)
        have z00 : ¬ ¬ (0 : Int32) = 0 := fun q => q rfl
        rw [if_neg cu, if_neg z00, cd_2 u2]
        exact ⟨t1, rfl, me.I8.tr a2, fun q => by omega⟩
    by_cases m1 : m = 1
    · rw [if_neg (fun q => q m1)]
      exact main 1 (by rw [m1])
    · rw [if_pos m1]
      exact main 0 (lnk_by m1).symm
theorem m_res {s : CS} {t : MS} (h : Lk s t) (m : Int32) {i : Nat} (hi : i < nS s) : ∃ t', fn_Mo_workReserve t m (Int32.ofNat i) = some (cd (resA s m i), t') ∧ me t t' ∧ (¬ (resA s m i).1 = 2 → mo_ok t' ∧ mv t' = resA s m i) := by
  obtain ⟨s1, s2, s3, s4, s5, s6, s7⟩ := nS_eq h.1.2.1
  obtain ⟨t1, a1, a2, a3⟩ := m_work h m hi
  unfold fn_Mo_workReserve
  rw [a1, ct_ob2_s]
  by_cases c : (ultA s m i).1 = 0
  · obtain ⟨b1, b2⟩ := a3 (by omega)
    have ec : cd (ultA s m i) = 0 := if_pos c
    have e64 : (-lat s i).toInt64.toInt = (-lat s i).toInt := Int32.toInt_toInt64 _
    obtain ⟨t2, d1, d2, d3, d4⟩ := pm_plus (s := t1) (c := (-lat s i).toInt64) (d := 1) b1 ⟨i64_bd _, sp_11.2.1, sp_11.2.2⟩
    have ed : mv t2 = resA s m i := by
      rw [d3, b2, e64]
      rfl
    rw [if_pos ec, m_lat (h.mq a2.mq) hi, ct_ob_s, d1, ct_ob_s, an_ok d2, ct_ob_s, ed]
    exact ⟨t2, rfl, a2.tr d4.me, fun _ => ⟨d2, ed⟩⟩
  · have er : resA s m i = (max (ultA s m i).1 0, 0, 0) := by
      unfold resA av_plus av_op
      rw [if_neg (fun q => c q.1)]
      rfl
    have es : (resA s m i).1 = (ultA s m i).1 := by rw [er]; exact Nat.max_zero _
    have ec : cd (resA s m i) = cd (ultA s m i) := by unfold cd; rw [es]
    have nc : ¬ cd (ultA s m i) = 0 := by
      unfold cd
      rw [if_neg c]
      by_cases c1 : (ultA s m i).1 = 1
      · rw [if_pos c1]; decide
      · rw [if_neg c1]; decide
    rw [if_neg nc, ec]
    refine ⟨t1, rfl, a2, fun q => ?_⟩
    obtain ⟨b1, b2⟩ := a3 (fun z => q (es.trans z))
    have n8 : ¬ ms_I t1 8 = 0 := fun z => c (by rw [← b2]; unfold mv; rw [if_pos z])
    have e1 : mv t1 = (1, 0, 0) := if_neg n8
    have e2 : ultA s m i = (1, 0, 0) := b2.symm.trans e1
    refine ⟨b1, ?_⟩
    rw [er, e2, e1]
    rfl
