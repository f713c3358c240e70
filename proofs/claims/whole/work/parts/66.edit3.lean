theorem va_up_same {α : Type} (f : Nat → α) (k : Nat) : va_up f k (f k) = f := by
  funext j
  by_cases h : j = k <;> simp [va_up, h]
def cO (s : CS) (O : Nat → Int32) : CS := (s.1, va_up s.2.1 6 O, s.2.2)
def mO (t : MS) (O : Nat → Int32) : MS := (t.1, t.2.1, va_up t.2.2.1 7 O, t.2.2.2)
theorem cO_put (s : CS) (O : Nat → Int32) (i : Nat) (v : Int32) : cs_A' (cO s O) 6 i v = cO s (upd O i v) := by
  show (s.1, va_up (va_up s.2.1 6 O) 6 (upd (va_up s.2.1 6 O 6) i v), s.2.2) = (s.1, va_up s.2.1 6 (upd O i v), s.2.2)
  rw [va_up_up, va_up_self]
theorem mO_put (t : MS) (O : Nat → Int32) (i : Nat) (v : Int32) : ms_A' (mO t O) 7 i v = mO t (upd O i v) := by
  show (t.1, t.2.1, va_up (va_up t.2.2.1 7 O) 7 (upd (va_up t.2.2.1 7 O 7) i v), t.2.2.2) = (t.1, t.2.1, va_up t.2.2.1 7 (upd O i v), t.2.2.2)
  rw [va_up_up, va_up_self]
theorem cO_id (s : CS) : cO s (cs_A s 6) = s := by
  show (s.1, va_up s.2.1 6 (s.2.1 6), s.2.2) = s
  rw [va_up_same]
theorem mO_id (t : MS) : mO t (ms_A t 7) = t := by
  show (t.1, t.2.1, va_up t.2.2.1 7 (t.2.2.1 7), t.2.2.2) = t
  rw [va_up_same]
theorem i36 {j : Nat} (h : j < 2147483648) : (36 : Int32) ≤ Int32.ofNat j ↔ 36 ≤ j := pi_le (a := 36) (by decide) h
theorem b_reshape (s : CS) (a1 a2 a3 a4 : Int32) : ∀ (d n j : Nat) (O : Nat → Int32), j + d = 36 → d < n → ∃ O', bk_Tr_reshape_29 a1 a2 a3 a4 n (cO s O) (Int32.ofNat j) = some (cO s O') ∧ ∀ k, O' k = if j ≤ k ∧ k < 36 then 0 else O k := by
  intro d
  induction d with
  | zero =>
    intro n j O hj hn
    obtain ⟨n, rfl⟩ : ∃ z, n = z + 1 := ⟨n - 1, by omega⟩
    refine ⟨O, ?_, fun k => by rw [if_neg (by omega)]⟩
    show bk_Tr_reshape_29_o a1 a2 a3 a4 _ (cO s O) (Int32.ofNat j) = _
    unfold bk_Tr_reshape_29_o
    have h6 := (i36 (j := j) (by omega)).mpr (by omega)
    rw [if_pos h6]
  | succ d ih =>
    intro n j O hj hn
    obtain ⟨n, rfl⟩ : ∃ z, n = z + 1 := ⟨n - 1, by omega⟩
    obtain ⟨O', h1, h2⟩ := ih n (j + 1) (upd O j (vp_nar .boolean 0)) (by omega) (by omega)
    refine ⟨O', ?_, fun k => ?_⟩
    · show bk_Tr_reshape_29_o a1 a2 a3 a4 _ (cO s O) (Int32.ofNat j) = _
      unfold bk_Tr_reshape_29_o
      have h6 : ¬ (36 : Int32) ≤ Int32.ofNat j := fun q => by have := (i36 (by omega)).mp q; omega
      rw [if_neg h6, pi_inR (show j < 36 by omega) (by omega), ct_gd_t, ct_nm_eq, pi_cl (by omega), cO_put, pi_succ]
      exact h1
    · rw [h2]
      unfold upd
      by_cases c : k = j
      · rw [if_pos c, if_neg (by omega), if_pos (by omega)]
        rfl
      · rw [if_neg c]
        by_cases c2 : j + 1 ≤ k ∧ k < 36
        · rw [if_pos c2, if_pos (by omega)]
        · rw [if_neg c2, if_neg (by omega)]
theorem b_mshape (t : MS) (a1 a2 a3 a4 : Int32) : ∀ (d n j : Nat) (O : Nat → Int32), j + d = 36 → d < n → ∃ O', bk_Mo_build_78 a1 a2 a3 a4 n (mO t O) (Int32.ofNat j) = some (mO t O') ∧ ∀ k, O' k = if j ≤ k ∧ k < 36 then 0 else O k := by
  intro d
  induction d with
  | zero =>
    intro n j O hj hn
    obtain ⟨n, rfl⟩ : ∃ z, n = z + 1 := ⟨n - 1, by omega⟩
    refine ⟨O, ?_, fun k => by rw [if_neg (by omega)]⟩
    show bk_Mo_build_78_o a1 a2 a3 a4 _ (mO t O) (Int32.ofNat j) = _
    unfold bk_Mo_build_78_o
    have h6 := (i36 (j := j) (by omega)).mpr (by omega)
    rw [if_pos h6]
  | succ d ih =>
    intro n j O hj hn
    obtain ⟨n, rfl⟩ : ∃ z, n = z + 1 := ⟨n - 1, by omega⟩
    obtain ⟨O', h1, h2⟩ := ih n (j + 1) (upd O j (vp_nar .boolean 0)) (by omega) (by omega)
    refine ⟨O', ?_, fun k => ?_⟩
    · show bk_Mo_build_78_o a1 a2 a3 a4 _ (mO t O) (Int32.ofNat j) = _
      unfold bk_Mo_build_78_o
      have h6 : ¬ (36 : Int32) ≤ Int32.ofNat j := fun q => by have := (i36 (by omega)).mp q; omega
      rw [if_neg h6, pi_inR (show j < 36 by omega) (by omega), ct_gd_t, ct_nm_eq, pi_cl (by omega), mO_put, pi_succ]
      exact h1
    · rw [h2]
      unfold upd
      by_cases c : k = j
      · rw [if_pos c, if_neg (by omega), if_pos (by omega)]
        rfl
      · rw [if_neg c]
        by_cases c2 : j + 1 ≤ k ∧ k < 36
        · rw [if_pos c2, if_pos (by omega)]
        · rw [if_neg c2, if_neg (by omega)]
theorem isB_of {x : Int32} (h : x = 0 ∨ x = 1) : ct_isB x = true := decide_eq_true h
theorem PPbuild : PP_build Inv := by
  intro s t h a1 a2 a3 a4 hb
  obtain ⟨⟨g1, g2, g3, g4, g5, g6, g7⟩, ⟨r1, r2, r3, r4, r5, r6, r7⟩, hE, hP, hF, hO, hC⟩ := id h
  have bad : ∀ z : Option ((Nat × CS) ⊕ CS), z = bk_CT_build_33 a1 a2 a3 a4 s 0 → ∀ y : Option MS, y = bk_Mo_build_38 a1 a2 a3 a4 t 1 → ∃ o t9, z = some o ∧ y = some t9 ∧ AgV Inv (fun k => k = 1) o t9 := by
    intro z hz y hy
    refine ⟨.inl (1, s), ms_I' t 0 1, hz.trans rfl, hy.trans ?_, fun k s1 q => (by cases q; rfl), rfl, h.thr⟩
    unfold bk_Mo_build_38
    rw [ct_nm_eq, ms_I_self, if_neg pf_one0]
  have e1 : a2 < 1 ↔ a2.toInt < 1 := by rw [pi_lt32, l1]
  have e2 : 12 < a2 ↔ 12 < a2.toInt := by rw [pi_lt32, l12]
  have e3 : a4 < 1 ↔ a4.toInt < 1 := by rw [pi_lt32, l1]
  have e4 : 6 < a4 ↔ 6 < a4.toInt := by rw [pi_lt32, l6]
  have e5 : a4 ≤ 6 ↔ ¬ 6 < a4.toInt := by rw [pi_le32, l6]; omega
  unfold fn_CT_build fn_Mo_build
  by_cases hl : okL a1
  · rw [((p_line a1).1 hl).1, ((p_line a1).1 hl).2, ct_ob_s, ct_ob_s, if_neg pf_one0, if_neg (fun q => q rfl), p_within, ct_ob_s, p_within, ct_ob_s]
    by_cases c1 : a2 < 1
    · have n : ¬ (¬ a2 < 1 ∧ ¬ 12 < a2) := fun q => q.1 c1
      rw [if_pos c1, if_neg n, if_pos rfl]
      exact bad _ rfl _ rfl
    · rw [if_neg c1]
      by_cases c2 : 12 < a2
      · have n : ¬ (¬ a2 < 1 ∧ ¬ 12 < a2) := fun q => q.2 c2
        rw [if_pos c2, if_neg n, if_pos rfl]
        exact bad _ rfl _ rfl
      · have y : ¬ a2 < 1 ∧ ¬ 12 < a2 := ⟨c1, c2⟩
        rw [if_neg c2, if_pos y, if_neg pf_one0]
        by_cases c3 : a4 < 1
        · have n : ¬ (¬ a4 < 1 ∧ ¬ 6 < a4) := fun q => q.1 c3
          rw [if_pos c3, if_neg n, if_pos rfl]
          exact bad _ rfl _ rfl
        · rw [if_neg c3]
          by_cases c4 : 6 < a4
          · have n : ¬ (¬ a4 < 1 ∧ ¬ 6 < a4) := fun q => q.2 c4
            have n2 : ¬ a4 ≤ 6 := fun q => e5.mp q (e4.mp c4)
            rw [if_neg n2, if_neg n, if_pos rfl]
            exact bad _ rfl _ rfl
          · have n2 : a4 ≤ 6 := e5.mpr (fun q => c4 (e4.mpr q))
            have y2 : ¬ a4 < 1 ∧ ¬ 6 < a4 := ⟨c3, c4⟩
            rw [if_pos n2, if_pos y2, if_neg pf_one0]
            have x1 : fn_CT_check s 1 = some (.inr s) := rfl
            unfold bk_CT_build_33 bk_Mo_build_38 fn_Tr_reshape
            rw [x1, ct_xb_r, ct_nm_eq, ct_nm_eq, isB_of hb, ct_gd_t, ct_nm_eq, ct_nm_eq, ct_nm_eq, ct_nm_eq, ms_I_self, if_pos rfl, ct_nm_eq, ct_nm_eq, ct_gd_t, ct_nm_eq, ct_nm_eq, ct_nm_eq]
            obtain ⟨s5, hs5⟩ : ∃ z, cs_I' (cs_I' (cs_I' (cs_I' (cs_I' s 1 a1) 2 a2) 3 a3) 4 a4) 5 0 = z := ⟨_, rfl⟩
            obtain ⟨t5, ht5⟩ : ∃ z, ms_I' (ms_I' (ms_I' (ms_I' (ms_I' (ms_I' t 0 0) 2 a1) 3 a2) 4 a3) 5 a4) 6 0 = z := ⟨_, rfl⟩
            rw [hs5, ht5]
            obtain ⟨O1, f1, f2⟩ := b_reshape s5 a1 a2 a3 a4 36 200 0 (cs_A s5 6) (by omega) (by omega)
            obtain ⟨O2, f3, f4⟩ := b_mshape t5 a1 a2 a3 a4 36 200 0 (ms_A t5 7) (by omega) (by omega)
            rw [cO_id] at f1
            rw [mO_id] at f3
            have f1' : bk_Tr_reshape_29 a1 a2 a3 a4 200 s5 0 = some (cO s5 O1) := f1
            have f3' : bk_Mo_build_78 a1 a2 a3 a4 200 t5 0 = some (mO t5 O2) := f3
            rw [f1', f3', ct_ob_s]
            subst hs5
            subst ht5
            rw [e1] at c1
            rw [e2] at c2
            rw [e3] at c3
            rw [e4] at c4
            obtain ⟨R', k1, k2⟩ := inv_fill (s := cO (cs_I' (cs_I' (cs_I' (cs_I' (cs_I' s 1 a1) 2 a2) 3 a3) 4 a4) 5 0) O1) (t := mO (ms_I' (ms_I' (ms_I' (ms_I' (ms_I' (ms_I' t 0 0) 2 a1) 3 a2) 4 a3) 5 a4) 6 0) O2) ⟨g1, rfl, rfl, rfl, rfl, rfl, g7⟩ ⟨r1, hl, ⟨Int.not_lt.mp c1, Int.not_lt.mp c2⟩, hb, ⟨Int.not_lt.mp c3, Int.not_lt.mp c4⟩, ⟨by show 0 ≤ (0 : Int32).toInt; rw [l0]; omega, by show (0 : Int32).toInt < a4.toInt; rw [l0]; omega⟩, r7⟩ hE hP hF (fun k hk => by
              have u1 : O1 k = 0 := by rw [f2, if_pos (by omega)]
              have u2 : O2 k = 0 := by rw [f4, if_pos (by omega)]
              exact ⟨u1.trans u2.symm, Or.inl u1⟩)
            rw [k1, ct_ob_s]
            exact ⟨_, _, rfl, rfl, fun k s1 q => (by cases q), rfl, k2⟩
  · rw [((p_line a1).2 hl).1, ((p_line a1).2 hl).2, ct_ob_s, ct_ob_s, if_pos rfl, if_pos pf_one0]
    exact bad _ rfl _ rfl
