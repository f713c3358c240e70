theorem inv_fill {s : CS} {t : MS} (h1 : iS s t) (h2 : iR s) (h3 : iE s t) (h4 : iP s t) (h5 : iF s t) (h6 : iO s t) : ∃ R', fn_Tr_fill s = some (cR s R') ∧ Inv (cR s R') t := by
  have hE : okE s := fun e he => (h3 e he).2.1
  obtain ⟨R', e1, e2⟩ := fl_fill hE h2
  refine ⟨R', e1, h1, h2, h3, h4, h5, h6, fun i j hij => ?_⟩
  have q := h2.2.2.2.2.1
  have n4 := pi_nat (show 0 ≤ (cs_I s 4).toInt by omega)
  have hij : ((i + j : Nat) : Int) < (cs_I s 4).toInt := hij
  exact e2 i j (by omega)
theorem l0 : (0 : Int32).toInt = 0 := rfl
theorem l1 : (1 : Int32).toInt = 1 := rfl
theorem l6 : (6 : Int32).toInt = 6 := rfl
theorem l12 : (12 : Int32).toInt = 12 := rfl
theorem l60 : (60 : Int32).toInt = 60 := rfl
theorem l71 : (71 : Int32).toInt = 71 := rfl
theorem l9999 : (9999 : Int32).toInt = 9999 := rfl
theorem ln9999 : (-9999 : Int32).toInt = -9999 := rfl
theorem p_entry {s : CS} (hR : iR s) (a : Int32) : fn_CT_checkEntry s a = some (if 0 ≤ a.toInt ∧ a.toInt < (cs_I s 0).toInt then .inr s else .inl (1, s)) := by
  have q := hR.1
  have em : (cs_I s 0 - 1).toInt = (cs_I s 0).toInt - 1 := by rw [Int32.toInt_sub, l1, pa_bm32 (by omega) (by omega)]
  unfold fn_CT_checkEntry
  rw [p_within, ct_ob_s, p_ck]
  by_cases c : ¬ a < 0 ∧ ¬ cs_I s 0 - 1 < a
  · rw [if_pos c, ct_xb_r]
    rw [pi_lt32, pi_lt32, em, l0] at c
    rw [if_pos (by omega)]
  · rw [if_neg c, ct_xb_l]
    rw [pi_lt32, pi_lt32, em, l0] at c
    rw [if_neg (by omega)]
theorem p_noEntry {s : CS} {t : MS} (hS : iS s t) (a : Int32) : fn_Mo_noEntry t a = some (if 0 ≤ a.toInt ∧ a.toInt < (cs_I s 0).toInt then 0 else 1) := by
  unfold fn_Mo_noEntry
  rw [← hS.1]
  by_cases c1 : a < 0
  · rw [if_pos c1]
    rw [pi_lt32, l0] at c1
    rw [if_neg (by omega)]
  · rw [if_neg c1]
    rw [pi_lt32, l0] at c1
    by_cases c2 : a < cs_I s 0
    · rw [if_pos c2]
      rw [pi_lt32] at c2
      rw [if_pos (by omega)]
    · rw [if_neg c2]
      rw [pi_lt32] at c2
      rw [if_neg (by omega)]
def okM (a b : Int32) : Prop := 0 ≤ a.toInt ∧ a.toInt ≤ 71 ∧ a.toInt ≤ b.toInt ∧ b.toInt ≤ 71
theorem p_months (s : CS) (a b : Int32) : (okM a b → fn_CT_checkMonths s a b = some (.inr s) ∧ fn_Mo_noMonths a b = some 0) ∧ (¬ okM a b → fn_CT_checkMonths s a b = some (.inl (1, s)) ∧ fn_Mo_noMonths a b = some 1) := by
  unfold fn_CT_checkMonths bk_CT_checkMonths_25 fn_Mo_noMonths okM
  rw [p_within, ct_ob_s, p_within]
  have x0 : fn_CT_check s 0 = some (.inl (1, s)) := rfl
  have x1 : fn_CT_check s 1 = some (.inr s) := rfl
  rw [x0, x1, ct_xb_l, ct_xb_r]
  have e0 : a < 0 ↔ a.toInt < 0 := by rw [pi_lt32, l0]
  have e1 : 71 < a ↔ 71 < a.toInt := by rw [pi_lt32, l71]
  have e2 : b < a ↔ b.toInt < a.toInt := pi_lt32
  have e3 : 71 < b ↔ 71 < b.toInt := by rw [pi_lt32, l71]
  have e4 : b ≤ 71 ↔ b.toInt ≤ 71 := by rw [pi_le32, l71]
  by_cases c0 : a.toInt < 0 <;> by_cases c1 : 71 < a.toInt <;> by_cases c2 : b.toInt < a.toInt <;> by_cases c3 : b.toInt ≤ 71 <;> simp [e0, e1, e2, e3, e4, c0, c1, c2, c3, ct_ob_s] <;> omega
theorem p_living (s : CS) {e : Nat} (he : e < 60) : fn_CT_checkLiving s (Int32.ofNat e) = some (if cs_A s 5 e = 0 then .inl (2, s) else .inr s) := by
  unfold fn_CT_checkLiving
  rw [pi_inR he (by omega), ct_gd_t, pi_cl (by omega)]
  by_cases h : cs_A s 5 e = 0
  · rw [if_neg (fun q => q h), if_pos h]
  · rw [if_pos h, if_neg h]
theorem PPstrike : PP_strike Inv := by
  intro s t h a1
  obtain ⟨hS, hR, hE, hP, hF, hO, hC⟩ := id h
  unfold fn_CT_strike fn_Mo_strike
  rw [p_entry hR, p_noEntry hS, ct_ob_s]
  by_cases c : 0 ≤ a1.toInt ∧ a1.toInt < (cs_I s 0).toInt
  · rw [if_pos c, if_pos c, ct_xb_r, if_pos rfl]
    obtain ⟨e, rfl, he, hee⟩ := pi_ex c.1
    have he60 : e < 60 := by have := hR.1.2; omega
    obtain ⟨⟨a0, a1, a2, a3⟩, m, p, lv⟩ := hE e (by omega)
    rw [p_living s he60, pi_inR he60 (by omega), ct_gd_t, pi_cl (by omega)]
    rcases lv with ⟨v1, v2⟩ | ⟨v1, v2⟩
    · have n5 : ¬ cs_A s 5 e = 0 := by rw [v1]; decide
      rw [if_neg n5, ct_xb_r, ct_gd_t, ct_nm_eq, if_pos v2]
      have hE2 : iE (cs_A' s 5 e (vp_nar .boolean 0)) (ms_A' (ms_I' t 0 0) 5 e (vp_nar .boolean 1)) := by
        intro x hx
        obtain ⟨b0, b1, b2, b3⟩ := hE x hx
        refine ⟨b0, b1, b2, ?_⟩
        by_cases q : x = e
        · subst q
          right
          refine ⟨?_, ?_⟩
          · show upd (cs_A s 5) x _ x = 0
            simp [upd]
            rfl
          · show upd (ms_A t 5) x _ x = 1
            simp [upd]
            rfl
        · have u1 : cs_A (cs_A' s 5 e (vp_nar .boolean 0)) 5 x = cs_A s 5 x := by show upd (cs_A s 5) e _ x = _; simp [upd, q]
          have u2 : ms_A (ms_A' (ms_I' t 0 0) 5 e (vp_nar .boolean 1)) 5 x = ms_A t 5 x := by show upd (ms_A t 5) e _ x = _; simp [upd, q]
          rw [u1, u2]
          exact b3
      obtain ⟨R', f1, f2⟩ := inv_fill (s := cs_A' s 5 e (vp_nar .boolean 0)) (t := ms_A' (ms_I' t 0 0) 5 e (vp_nar .boolean 1)) hS hR hE2 hP hF hO
      rw [f1, ct_ob_s, ct_gd_t]
      unfold bk_Mo_strike_27
      rw [ct_nm_eq, ms_I_self, if_pos rfl, pi_inR he60 (by omega), ct_gd_t, ct_nm_eq, ct_gd_t, pi_cl (by omega)]
      refine ⟨_, _, _, rfl, rfl, fun k s1 q => (by cases q), rfl, f2, fun v s1 q => ?_⟩
      cases q
      exact a3
    · rw [if_pos v1, ct_xb_l]
      have n5 : ¬ ms_A t 5 e = 0 := by rw [v2]; decide
      rw [if_neg n5]
      unfold bk_Mo_strike_27
      rw [ct_nm_eq, ms_I_self, if_neg (by decide)]
      exact ⟨_, _, _, rfl, rfl, fun k s1 q => (by cases q; exact Or.inr rfl), rfl, h.thr, fun v s1 q => (by cases q)⟩
  · rw [if_neg c, if_neg c, ct_xb_l, if_neg pf_one0]
    unfold bk_Mo_strike_27
    rw [ct_nm_eq, ms_I_self, if_neg pf_one0]
    exact ⟨_, _, _, rfl, rfl, fun k s1 q => (by cases q; exact Or.inl rfl), rfl, h.thr, fun v s1 q => (by cases q)⟩
theorem PPmove : PP_move Inv := by
  intro s t h a1 a2 a3
  obtain ⟨hS, hR, hE, hP, hF, hO, hC⟩ := id h
  unfold fn_CT_move fn_Mo_move
  rw [p_entry hR, p_noEntry hS, ct_ob_s]
  by_cases c : 0 ≤ a1.toInt ∧ a1.toInt < (cs_I s 0).toInt
  · rw [if_pos c, if_pos c, ct_xb_r, if_neg (fun q => q rfl)]
    by_cases hm : okM a2 a3
    · obtain ⟨m1, m2⟩ := (p_months s a2 a3).1 hm
      rw [m1, m2, ct_xb_r, ct_ob_s, if_pos rfl]
      obtain ⟨e, rfl, he, hee⟩ := pi_ex c.1
      have he60 : e < 60 := by have := hR.1.2; omega
      obtain ⟨⟨a0, a1, a2', a3'⟩, m, p, lv⟩ := hE e (by omega)
      rw [p_living s he60, pi_inR he60 (by omega), ct_gd_t, pi_cl (by omega)]
      rcases lv with ⟨v1, v2⟩ | ⟨v1, v2⟩
      · have n5 : ¬ cs_A s 5 e = 0 := by rw [v1]; decide
        rw [if_neg n5, ct_xb_r, ct_gd_t, ct_nm_eq, ct_gd_t, ct_nm_eq, if_pos v2]
        have hE2 : iE (cs_A' (cs_A' s 1 e a2) 2 e a3) (ms_A' (ms_A' (ms_I' t 0 0) 1 e a2) 2 e a3) := by
          intro x hx
          obtain ⟨⟨b0, b1, b2, b3⟩, bm, bp, bl⟩ := hE x hx
          have u1 : cs_A (cs_A' (cs_A' s 1 e a2) 2 e a3) 1 x = upd (cs_A s 1) e a2 x := rfl
          have u2 : cs_A (cs_A' (cs_A' s 1 e a2) 2 e a3) 2 x = upd (cs_A s 2) e a3 x := rfl
          have u3 : ms_A (ms_A' (ms_A' (ms_I' t 0 0) 1 e a2) 2 e a3) 1 x = upd (ms_A t 1) e a2 x := rfl
          have u4 : ms_A (ms_A' (ms_A' (ms_I' t 0 0) 1 e a2) 2 e a3) 2 x = upd (ms_A t 2) e a3 x := rfl
          rw [u1, u2, u3, u4]
          unfold upd
          by_cases q : x = e
          · simp only [if_pos q]
            exact ⟨⟨b0, trivial, trivial, b3⟩, ⟨hm.1, hm.2.2.1, hm.2.2.2⟩, bp, bl⟩
          · simp only [if_neg q]
            exact ⟨⟨b0, b1, b2, b3⟩, bm, bp, bl⟩
        obtain ⟨R', f1, f2⟩ := inv_fill (s := cs_A' (cs_A' s 1 e a2) 2 e a3) (t := ms_A' (ms_A' (ms_I' t 0 0) 1 e a2) 2 e a3) hS hR hE2 hP hF hO
        rw [f1, ct_ob_s]
        unfold bk_Mo_move_36
        rw [ct_nm_eq, ms_I_self, if_neg (fun q => q rfl), pi_inR he60 (by omega), ct_gd_t, ct_nm_eq, ct_gd_t, ct_nm_eq, pi_cl (by omega)]
        exact ⟨_, _, rfl, rfl, fun k s1 q => (by cases q), rfl, f2⟩
      · rw [if_pos v1, ct_xb_l]
        have n5 : ¬ ms_A t 5 e = 0 := by rw [v2]; decide
        rw [if_neg n5]
        unfold bk_Mo_move_36
        rw [ct_nm_eq, ms_I_self, if_pos (by decide)]
        exact ⟨_, _, rfl, rfl, fun k s1 q => (by cases q; exact Or.inr rfl), rfl, h.thr⟩
    · obtain ⟨m1, m2⟩ := (p_months s a2 a3).2 hm
      rw [m1, m2, ct_xb_l, ct_ob_s, if_neg pf_one0]
      unfold bk_Mo_move_36
      rw [ct_nm_eq, ms_I_self, if_pos pf_one0]
      exact ⟨_, _, rfl, rfl, fun k s1 q => (by cases q; exact Or.inl rfl), rfl, h.thr⟩
  · rw [if_neg c, if_neg c, ct_xb_l, if_pos pf_one0]
    unfold bk_Mo_move_36
    rw [ct_nm_eq, ms_I_self, if_pos pf_one0]
    exact ⟨_, _, rfl, rfl, fun k s1 q => (by cases q; exact Or.inl rfl), rfl, h.thr⟩
/-- a new entry: the reference's way to its code -/
def okL (a : Int32) : Prop := 0 ≤ a.toInt ∧ a.toInt ≤ 1
theorem p_line (a : Int32) : (okL a → fn_CT_isLine a = some 1 ∧ fn_Mo_noLine a = some 0) ∧ (¬ okL a → fn_CT_isLine a = some 0 ∧ fn_Mo_noLine a = some 1) := by
  unfold okL
  rw [p_isLine, p_noLine]
  have e0 : a < 0 ↔ a.toInt < 0 := by rw [pi_lt32, l0]
  have e1 : 1 < a ↔ 1 < a.toInt := by rw [pi_lt32, l1]
  by_cases c0 : a.toInt < 0 <;> by_cases c1 : 1 < a.toInt <;> simp [e0, e1, c0, c1] <;> omega
theorem p_menter (t : MS) (a1 a2 a3 a4 b lo : Int32) (hb : b = 0 ∧ lo = 0 ∨ b = 1 ∧ lo = -9999) : (okL a1 ∧ okM a2 a3 ∧ lo.toInt ≤ a4.toInt ∧ a4.toInt ≤ 9999 → fn_Mo_enter t a1 a2 a3 a4 b = bk_Mo_enter_73 a1 a2 a3 a4 b t (if ms_I t 1 = 60 then 2 else 0)) ∧ (¬ (okL a1 ∧ okM a2 a3 ∧ lo.toInt ≤ a4.toInt ∧ a4.toInt ≤ 9999) → fn_Mo_enter t a1 a2 a3 a4 b = bk_Mo_enter_73 a1 a2 a3 a4 b t 1) := by
  have e1 : 9999 < a4 ↔ 9999 < a4.toInt := by rw [pi_lt32, l9999]
  have key : ∀ v : Int32, v = 0 → bk_Mo_enter_47 a1 a2 a3 a4 b t v = bk_Mo_enter_73 a1 a2 a3 a4 b t (if ms_I t 1 = 60 then 2 else 0) := by
    intro v hv
    unfold bk_Mo_enter_47
    rw [if_pos hv]
    by_cases q : ms_I t 1 = 60
    · rw [if_neg (fun z => z q), if_pos q]
    · rw [if_pos q, if_neg q]
  have key1 : bk_Mo_enter_47 a1 a2 a3 a4 b t 1 = bk_Mo_enter_73 a1 a2 a3 a4 b t 1 := rfl
  have hlast : (if b = 0 then bk_Mo_enter_39 a1 a2 a3 a4 b t a4 0 else bk_Mo_enter_39 a1 a2 a3 a4 b t a4 (-9999)) = bk_Mo_enter_39 a1 a2 a3 a4 b t a4 lo := by
    rcases hb with ⟨h1, h2⟩ | ⟨h1, h2⟩
    · rw [if_pos h1, h2]
    · rw [if_neg (by rw [h1]; decide), h2]
  have e2 : lo ≤ a4 ↔ lo.toInt ≤ a4.toInt := pi_le32
  unfold fn_Mo_enter
  by_cases hl : okL a1
  · rw [((p_line a1).1 hl).2, ct_ob_s, if_neg (fun q => q rfl)]
    by_cases hm : okM a2 a3
    · rw [((p_months cs_0 a2 a3).1 hm).2, ct_ob_s, if_neg (fun q => q rfl), hlast]
      unfold bk_Mo_enter_39
      by_cases c1 : 9999 < a4
      · rw [if_pos c1]
        exact ⟨fun q => absurd (e1.mp c1) (by omega), fun _ => key1⟩
      · rw [if_neg c1]
        have c1' : ¬ 9999 < a4.toInt := fun q => c1 (e1.mpr q)
        by_cases c2 : lo ≤ a4
        · rw [if_pos c2]
          exact ⟨fun _ => key 0 rfl, fun q => absurd ⟨hl, hm, e2.mp c2, by omega⟩ q⟩
        · rw [if_neg c2]
          exact ⟨fun q => absurd (e2.mpr q.2.2.1) c2, fun _ => key1⟩
    · rw [((p_months cs_0 a2 a3).2 hm).2, ct_ob_s, if_pos pf_one0]
      exact ⟨fun q => absurd q.2.1 hm, fun _ => key1⟩
  · rw [((p_line a1).2 hl).2, ct_ob_s, if_pos pf_one0]
    exact ⟨fun q => absurd q.1 hl, fun _ => key1⟩
