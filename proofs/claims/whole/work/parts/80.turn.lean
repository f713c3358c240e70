/-! invert, negate, turn -/
theorem pf_neg {s : CS} {f : Nat} (ht : fr_ok (cs_F s f)) : ∃ x, fn_Fr_negate s f = some (cs_F' s f x) ∧ fr_ok x ∧ fv x = av_neg (fv (cs_F s f)) := by
  obtain ⟨a, b, st, hF⟩ : ∃ a b st, cs_F s f = (a, b, st) := ⟨_, _, _, rfl⟩
  refine ⟨(-a, b, st), ?_, ?_, ?_⟩
  · unfold fn_Fr_negate
    rw [ct_nm_eq]
    unfold cs_F0'
    rw [hF]
  · rw [hF] at ht
    rcases ht with ⟨h1, h2⟩ | h | h
    · have h2' : sp_ok a.toInt b.toInt := h2
      obtain ⟨q1, q2, q3⟩ := h2'
      exact Or.inl ⟨h1, by show (-a).toInt.natAbs ≤ _; rw [pa_neg (by omega)]; omega, q2, q3⟩
    · exact Or.inr (Or.inl h)
    · exact Or.inr (Or.inr h)
  · rw [hF] at ht ⊢
    have hs : st = 0 ∨ st = 1 ∨ st = 2 := pf_st ht
    rcases hs with rfl | rfl | rfl
    · have h2 : sp_ok a.toInt b.toInt := pf_fine ht rfl
      obtain ⟨q1, q2, q3⟩ := h2
      rw [fv_0, fv_0, pa_neg (by omega)]
      rfl
    · rfl
    · rfl
theorem pf_inv {s : CS} {f : Nat} (ht : fr_ok (cs_F s f)) : ∃ x, fn_Fr_invert s f = some (cs_F' s f x) ∧ fr_ok x ∧ fv x = av_inv (fv (cs_F s f)) := by
  obtain ⟨a, b, st, hF⟩ : ∃ a b st, cs_F s f = (a, b, st) := ⟨_, _, _, rfl⟩
  have e0 : cs_F' s f (a, b, st) = s := by
    rw [← hF]
    show (s.1, s.2.1, s.2.2.1, s.2.2.2.1, va_up s.2.2.2.2 f (s.2.2.2.2 f)) = s
    rw [va_up_same]
  have eput : ∀ v w : Int64, cs_F0' (cs_F1' s f w) f v = cs_F' s f (v, w, st) := by
    intro v w
    have e1 : cs_F1' s f w = cs_F' s f (a, w, st) := by unfold cs_F1'; rw [hF]
    rw [e1, cs_F0_at]
  unfold fn_Fr_invert bk_Fr_invert_44
  rw [hF] at ht ⊢
  have hs : st = 0 ∨ st = 1 ∨ st = 2 := pf_st ht
  rcases hs with rfl | rfl | rfl
  · have h2 : sp_ok a.toInt b.toInt := pf_fine ht rfl
    obtain ⟨q1, q2, q3⟩ := h2
    have ab := pa_abs (x := a) (by omega)
    rw [if_pos rfl]
    by_cases c0 : a.toInt = 0
    · have n1 : ¬ ¬ lg_cmp a 0 = 0 := fun q => q ((pf_eq0 a).mpr c0)
      refine ⟨(a, b, 2), ?_, Or.inr (Or.inr rfl), ?_⟩
      · rw [if_neg n1, ct_nm_eq]
        unfold cs_F2'
        rw [hF]
      · rw [fv_0, fv_2]
        unfold av_inv
        rw [if_pos rfl, if_pos c0]
    · have n1 : ¬ lg_cmp a 0 = 0 := fun q => c0 ((pf_eq0 a).mp q)
      by_cases c1 : 0 < a.toInt
      · have c2 : 0 ≤ lg_cmp a 0 := pf_ge0.mpr (by omega)
        refine ⟨(b, ct_abL a, 0), ?_, Or.inl ⟨rfl, ?_, ?_, ?_⟩, ?_⟩
        · rw [if_pos n1, if_pos c2, ct_nm_eq, ct_nm_eq, eput]
        · show b.toInt.natAbs ≤ _; omega
        · show 0 < (ct_abL a).toInt; omega
        · show (ct_abL a).toInt ≤ _; omega
        · rw [fv_0, fv_0]
          unfold av_inv
          rw [if_pos rfl, if_neg c0, if_neg (by show ¬ a.toInt < 0; omega), show (ct_abL a).toInt = a.toInt by omega]
      · have c2 : ¬ 0 ≤ lg_cmp a 0 := fun q => by have := pf_ge0.mp q; omega
        have nb : (-b).toInt = -b.toInt := pa_neg (by omega)
        refine ⟨(-b, ct_abL a, 0), ?_, Or.inl ⟨rfl, ?_, ?_, ?_⟩, ?_⟩
        · rw [if_pos n1, if_neg c2, ct_nm_eq, ct_nm_eq, eput]
        · show (-b).toInt.natAbs ≤ _; omega
        · show 0 < (ct_abL a).toInt; omega
        · show (ct_abL a).toInt ≤ _; omega
        · rw [fv_0, fv_0]
          unfold av_inv
          rw [if_pos rfl, if_neg c0, if_pos (by show a.toInt < 0; omega), nb, show (ct_abL a).toInt = -a.toInt by omega]
  · rw [if_neg pf_one0]
    exact ⟨(a, b, 1), by rw [e0], ht, rfl⟩
  · have n2 : ¬ (2 : Int32) = 0 := by decide
    rw [if_neg n2]
    exact ⟨(a, b, 2), by rw [e0], ht, rfl⟩
theorem mv_0 {t : MS} (h : (mv t).1 = 0) : ms_I t 8 = 0 := by
  unfold mv at h
  by_cases c : ms_I t 8 = 0
  · exact c
  · rw [if_neg c] at h
    exact absurd h (by decide)
theorem mv_st {t : MS} (h : mo_ok t) : (mv t).1 ≤ 1 := by
  unfold mv
  by_cases c : ms_I t 8 = 0
  · rw [if_pos c]; exact Nat.zero_le 1
  · rw [if_neg c]; exact Nat.le_refl 1
theorem mo_fine {t : MS} (h : mo_ok t) (h0 : ms_I t 8 = 0) : sp_ok (ms_L t 0).toInt (ms_L t 1).toInt := by
  rcases h with h | h
  · exact h.2
  · rw [h0] at h; exact absurd h (by decide)
theorem pm_neg {t : MS} (h : mo_ok t) : mo_ok (ms_L' t 0 (-(ms_L t 0))) ∧ mv (ms_L' t 0 (-(ms_L t 0))) = av_neg (mv t) ∧ mo_eq t (ms_L' t 0 (-(ms_L t 0))) := by
  have e0 : ms_L (ms_L' t 0 (-(ms_L t 0))) 0 = -(ms_L t 0) := ms_L_self
  have e1 : ms_L (ms_L' t 0 (-(ms_L t 0))) 1 = ms_L t 1 := ms_L_ne (by decide)
  have e8 : ms_I (ms_L' t 0 (-(ms_L t 0))) 8 = ms_I t 8 := rfl
  refine ⟨?_, ?_, rfl, fun _ _ => rfl, fun k h0 _ => ms_L_ne h0⟩
  · by_cases c : ms_I t 8 = 0
    · obtain ⟨q1, q2, q3⟩ := mo_fine h c
      refine Or.inl ⟨c, ?_, ?_, ?_⟩
      · rw [e0, pa_neg (by omega)]; omega
      · rw [e1]; exact q2
      · rw [e1]; exact q3
    · rcases h with h | h
      · exact absurd h.1 c
      · exact Or.inr h
  · unfold mv
    rw [e0, e1, e8]
    by_cases c : ms_I t 8 = 0
    · obtain ⟨q1, q2, q3⟩ := mo_fine h c
      rw [if_pos c, if_pos c, pa_neg (by omega)]
      rfl
    · rw [if_neg c, if_neg c]
      rfl
theorem pm_turn {t : MS} (h : mo_ok t) (hz : ms_I t 8 = 0 → (ms_L t 0).toInt ≠ 0) : ∃ t', fn_Mo_turn t = some t' ∧ mo_ok t' ∧ mv t' = av_inv (mv t) ∧ mo_eq t t' := by
  unfold fn_Mo_turn bk_Mo_turn_29
  by_cases c : ms_I t 8 = 0
  · obtain ⟨q1, q2, q3⟩ := mo_fine h c
    have hz := hz c
    obtain ⟨z, z1, z2⟩ := pf_size (x := ms_L t 0) (by omega)
    have em : mv t = (0, (ms_L t 0).toInt, (ms_L t 1).toInt) := by unfold mv; rw [if_pos c]
    have fin : ∀ v : Int64, ms_L (ms_L' (ms_L' t 0 v) 1 z) 0 = v ∧ ms_L (ms_L' (ms_L' t 0 v) 1 z) 1 = z ∧ mo_eq t (ms_L' (ms_L' t 0 v) 1 z) ∧ mv (ms_L' (ms_L' t 0 v) 1 z) = (0, v.toInt, z.toInt) := fun v => ⟨(ms_L_ne (by decide)).trans ms_L_self, ms_L_self, ⟨rfl, fun _ _ => rfl, fun _ h0 h1 => (ms_L_ne h1).trans (ms_L_ne h0)⟩, if_pos c⟩
    rw [if_neg (fun q => q c), z1, ct_ob_s, ct_ob_s]
    by_cases c1 : 0 < (ms_L t 0).toInt
    · have c2 : 0 ≤ lg_cmp (ms_L t 0) 0 := pf_ge0.mpr (by omega)
      obtain ⟨f1, f2, f3, f4⟩ := fin (ms_L t 1)
      rw [if_pos c2]
      refine ⟨ms_L' (ms_L' t 0 (ms_L t 1)) 1 z, rfl, Or.inl ⟨c, ?_, ?_, ?_⟩, ?_, f3⟩
      · rw [f1]; omega
      · rw [f2]; omega
      · rw [f2]; omega
      · rw [f4, em]
        unfold av_inv
        rw [if_pos rfl, if_neg hz, if_neg (by show ¬ (ms_L t 0).toInt < 0; omega), show z.toInt = (ms_L t 0).toInt by omega]
    · have c2 : ¬ 0 ≤ lg_cmp (ms_L t 0) 0 := fun q => by have := pf_ge0.mp q; omega
      obtain ⟨f1, f2, f3, f4⟩ := fin (-(ms_L t 1))
      have nb : (-(ms_L t 1)).toInt = -(ms_L t 1).toInt := pa_neg (by omega)
      rw [if_neg c2]
      refine ⟨ms_L' (ms_L' t 0 (-(ms_L t 1))) 1 z, rfl, Or.inl ⟨c, ?_, ?_, ?_⟩, ?_, f3⟩
      · rw [f1]; omega
      · rw [f2]; omega
      · rw [f2]; omega
      · rw [f4, em, nb]
        unfold av_inv
        rw [if_pos rfl, if_neg hz, if_pos (by show (ms_L t 0).toInt < 0; omega), show z.toInt = -(ms_L t 0).toInt by omega]
  · rw [if_pos c]
    refine ⟨t, rfl, h, ?_, mo_eq.rf⟩
    unfold mv
    rw [if_neg c]
    rfl
