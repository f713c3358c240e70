/-! ultimate and reserve -/
theorem p_method (a : Int32) : fn_CT_isMethod a = some (if ¬ a < 0 ∧ ¬ 3 < a then 1 else 0) := by
  unfold fn_CT_isMethod
  rw [p_within, ct_ob_s]
  by_cases h : ¬ a < 0 ∧ ¬ 3 < a
  · rw [if_pos h]; rfl
  · rw [if_neg h]; rfl
theorem p_isRow {s : CS} (hr : iR s) (a : Int32) : fn_CT_isRow s a = some (if ¬ a < 0 ∧ ¬ Int32.ofNat (nS s - 1) < a then 1 else 0) := by
  obtain ⟨s1, s2, s3, s4, s5, s6, s7⟩ := nS_eq hr
  unfold fn_CT_isRow
  rw [cS_eq hr, ct_ob_s, pi_sub1 s4, p_within, ct_ob_s]
  by_cases h : ¬ a < 0 ∧ ¬ Int32.ofNat (nS s - 1) < a
  · rw [if_pos h]; rfl
  · rw [if_neg h]; rfl
theorem p_rows {s : CS} {t : MS} (h : Inv s t) (a1 a2 : Int32) : (∃ i, a2 = Int32.ofNat i ∧ i < nS s ∧ (∀ {α : Type} (B : Int32 → Option α), (ct_ob (fn_CT_isMethod a1) fun x1 => if x1 = 0 then B 0 else ct_ob (fn_CT_isRow s a2) fun x2 => if x2 = 0 then B 0 else B 1) = B 1) ∧ fn_Mo_noRow t a1 a2 = some 0) ∨ ((∀ {α : Type} (B : Int32 → Option α), (ct_ob (fn_CT_isMethod a1) fun x1 => if x1 = 0 then B 0 else ct_ob (fn_CT_isRow s a2) fun x2 => if x2 = 0 then B 0 else B 1) = B 0) ∧ fn_Mo_noRow t a1 a2 = some 1) := by
  obtain ⟨s1, s2, s3, s4, s5, s6, s7⟩ := nS_eq h.2.1
  unfold fn_Mo_noRow
  rw [p_method, p_isRow h.2.1, mS_eq h]
  by_cases c1 : a1 < 0
  · refine Or.inr ⟨fun B => ?_, by rw [if_pos c1]⟩
    rw [if_neg (fun q => q.1 c1), ct_ob_s, if_pos rfl]
  · by_cases c2 : 3 < a1
    · refine Or.inr ⟨fun B => ?_, by rw [if_neg c1, if_pos c2]⟩
      rw [if_neg (fun q => q.2 c2), ct_ob_s, if_pos rfl]
    · rw [if_neg c1, if_neg c2, if_pos ⟨c1, c2⟩]
      by_cases c3 : a2 < 0
      · refine Or.inr ⟨fun B => ?_, by rw [if_pos c3]⟩
        rw [ct_ob_s, if_neg pf_one0, if_neg (fun q => q.1 c3), ct_ob_s, if_pos rfl]
      · have c3' := c3
        rw [pi_lt32, l0] at c3'
        obtain ⟨i, rfl, i1, i2⟩ := pi_ex (x := a2) (by omega)
        have e1 : Int32.ofNat (nS s - 1) < Int32.ofNat i ↔ nS s - 1 < i := pi_lt (by omega) (by omega)
        have e2 : Int32.ofNat i < Int32.ofNat (nS s) ↔ i < nS s := pi_lt (by omega) (by omega)
        by_cases c4 : i < nS s
        · refine Or.inl ⟨i, rfl, c4, fun B => ?_, by rw [if_neg c3, ct_ob_s, if_pos (e2.mpr c4)]⟩
          have y : ¬ Int32.ofNat i < 0 ∧ ¬ Int32.ofNat (nS s - 1) < Int32.ofNat i := ⟨c3, fun q => by have := e1.mp q; omega⟩
          rw [ct_ob_s, if_neg pf_one0, if_pos y, ct_ob_s, if_neg pf_one0]
        · refine Or.inr ⟨fun B => ?_, by rw [if_neg c3, ct_ob_s, if_neg (fun q => c4 (e2.mp q))]⟩
          have y : ¬ (¬ Int32.ofNat i < 0 ∧ ¬ Int32.ofNat (nS s - 1) < Int32.ofNat i) := fun q => q.2 (e1.mpr (by omega))
          rw [ct_ob_s, if_neg pf_one0, if_neg y, ct_ob_s, if_pos rfl]
theorem mv_parts {t : MS} {v : AV} (h : ¬ v.1 = 2 → mo_ok t ∧ mv t = v) (q : v.1 = 0) : (ms_L t 0).toInt = v.2.1 ∧ (ms_L t 1).toInt = v.2.2 := by
  obtain ⟨o, e⟩ := h (by omega)
  have z := mv_0 (t := t) (by rw [e]; exact q)
  have em : mv t = (0, (ms_L t 0).toInt, (ms_L t 1).toInt) := if_pos z
  rw [← e, em]
  exact ⟨rfl, rfl⟩
theorem PPultimate : PP_ultimate Inv := by
  intro s t h a1 a2 a3 h3
  have x1 : fn_CT_check s 1 = some (.inr s) := rfl
  rcases p_rows h a1 a2 with ⟨i, rfl, hi, q1, q2⟩ | ⟨q1, q2⟩
  · have e' : fn_CT_ultimate s a1 (Int32.ofNat i) a3 = bk_CT_ultimate_20 a1 (Int32.ofNat i) a3 s 1 := q1 (bk_CT_ultimate_20 a1 (Int32.ofNat i) a3 s)
    obtain ⟨g, g1, g2⟩ := pr_all h.2.1 a1
    obtain ⟨t', k1, k2, k3, k4⟩ := lk_look (h.thr (v := 0))
    obtain ⟨g', c1, c2, c3, c4, c5⟩ := c_ult h g2 hi
    obtain ⟨t2, m1, m2, m3⟩ := m_work k2 a1 hi
    have key := told_ok (s := s) (g := g') (t := t2) (a3 := a3) ((k2.1.mq m2.mq).wF c2.1) c4 (fun q => by rw [c5] at q ⊢; exact mv_parts m3 q)
    unfold fn_Mo_ultimate bk_Mo_ultimate_15
    rw [e', q2, ct_ob_s, if_pos rfl]
    unfold bk_CT_ultimate_20
    rw [x1, ct_xb_r, g1, ct_ob_s, c1, ct_ob_s, xb2_inr, ct_nm_eq, ms_I_self, if_pos rfl, k1, ct_ob_s, m1, ct_ob2_s, ob2_some]
    rw [c5] at key
    exact key
  · have e' : fn_CT_ultimate s a1 a2 a3 = bk_CT_ultimate_20 a1 a2 a3 s 0 := q1 (bk_CT_ultimate_20 a1 a2 a3 s)
    have mbad : bk_Mo_ultimate_15 a1 a2 a3 t 1 = some (0, ms_I' t 0 1) := rfl
    unfold fn_Mo_ultimate
    rw [e', q2, ct_ob_s, if_neg pf_one0, mbad]
    exact ⟨_, _, _, rfl, rfl, agl_bad h⟩
theorem PPreserve : PP_reserve Inv := by
  intro s t h a1 a2 a3 h3
  have x1 : fn_CT_check s 1 = some (.inr s) := rfl
  rcases p_rows h a1 a2 with ⟨i, rfl, hi, q1, q2⟩ | ⟨q1, q2⟩
  · have e' : fn_CT_reserve s a1 (Int32.ofNat i) a3 = bk_CT_reserve_20 a1 (Int32.ofNat i) a3 s 1 := q1 (bk_CT_reserve_20 a1 (Int32.ofNat i) a3 s)
    obtain ⟨g, g1, g2⟩ := pr_all h.2.1 a1
    obtain ⟨t', k1, k2, k3, k4⟩ := lk_look (h.thr (v := 0))
    obtain ⟨g', c1, c2, c3, c4, c5⟩ := c_res h g2 hi
    obtain ⟨t2, m1, m2, m3⟩ := m_res k2 a1 hi
    have key := told_ok (s := s) (g := g') (t := t2) (a3 := a3) ((k2.1.mq m2.mq).wF c2.1) c4 (fun q => by rw [c5] at q ⊢; exact mv_parts m3 q)
    unfold fn_Mo_reserve bk_Mo_reserve_15
    rw [e', q2, ct_ob_s, if_pos rfl]
    unfold bk_CT_reserve_20
    rw [x1, ct_xb_r, g1, ct_ob_s, c1, ct_ob_s, xb2_inr, ct_nm_eq, ms_I_self, if_pos rfl, k1, ct_ob_s, m1, ct_ob2_s, ob2_some]
    rw [c5] at key
    exact key
  · have e' : fn_CT_reserve s a1 a2 a3 = bk_CT_reserve_20 a1 a2 a3 s 0 := q1 (bk_CT_reserve_20 a1 a2 a3 s)
    have mbad : bk_Mo_reserve_15 a1 a2 a3 t 1 = some (0, ms_I' t 0 1) := rfl
    unfold fn_Mo_reserve
    rw [e', q2, ct_ob_s, if_neg pf_one0, mbad]
    exact ⟨_, _, _, rfl, rfl, agl_bad h⟩
