/-! cells' places; leave -/
def okC (i j z : Int32) : Prop := 0 ≤ i.toInt ∧ 0 ≤ j.toInt ∧ i.toInt + j.toInt < z.toInt
theorem p_cellok {i j z : Int32} (hz1 : 0 ≤ z.toInt) (hz2 : z.toInt ≤ 6) : (okC i j z → fn_CT_isCell i j z = some 1 ∧ fn_Mo_noCell i j z = some 0) ∧ (¬ okC i j z → fn_CT_isCell i j z = some 0 ∧ fn_Mo_noCell i j z = some 1) := by
  have e1 : (z - 1).toInt = z.toInt - 1 := by rw [Int32.toInt_sub, l1, pa_bm32 (by omega) (by omega)]
  unfold fn_CT_isCell fn_Mo_noCell okC
  rw [p_within, ct_ob_s, p_within, ct_ob_s]
  have d1 : i < 0 ↔ i.toInt < 0 := by rw [pi_lt32, l0]
  have d2 : j < 0 ↔ j.toInt < 0 := by rw [pi_lt32, l0]
  have d3 : z - 1 < i ↔ z.toInt - 1 < i.toInt := by rw [pi_lt32, e1]
  have d4 : z ≤ i ↔ z.toInt ≤ i.toInt := pi_le32
  have d5 : z ≤ j ↔ z.toInt ≤ j.toInt := pi_le32
  by_cases c1 : i.toInt < 0
  · simp [d1, c1]
    omega
  · by_cases c3 : z.toInt ≤ i.toInt
    · have c3' : z.toInt - 1 < i.toInt := by omega
      simp [d1, d2, d3, d4, c1, c3, c3']
      omega
    · have c3' : ¬ z.toInt - 1 < i.toInt := by omega
      have e2 : (z - 1 - i).toInt = z.toInt - 1 - i.toInt := by rw [Int32.toInt_sub, e1, pa_bm32 (by omega) (by omega)]
      have d6 : z - 1 - i < j ↔ z.toInt - 1 - i.toInt < j.toInt := by rw [pi_lt32, e2]
      by_cases c2 : j.toInt < 0
      · simp [d1, d2, d3, c1, c2, c3']
        omega
      · by_cases c5 : z.toInt ≤ j.toInt
        · have c6 : z.toInt - 1 - i.toInt < j.toInt := by omega
          simp [d1, d2, d3, d4, d5, d6, c1, c2, c3, c3', c5, c6]
          omega
        · have e3 : (i + j).toInt = i.toInt + j.toInt := by rw [Int32.toInt_add, pa_bm32 (by omega) (by omega)]
          have d7 : i + j < z ↔ i.toInt + j.toInt < z.toInt := by rw [pi_lt32, e3]
          by_cases c7 : i.toInt + j.toInt < z.toInt
          · have c6 : ¬ z.toInt - 1 - i.toInt < j.toInt := by omega
            simp [d1, d2, d3, d4, d5, d6, d7, c1, c2, c3, c3', c5, c6, c7]
            try omega
          · have c6 : z.toInt - 1 - i.toInt < j.toInt := by omega
            simp [d1, d2, d3, d4, d5, d6, d7, c1, c2, c3, c3', c5, c6, c7]
            try omega
def cOu (O : Nat → Int32) (k : Nat) : Int32 := if O k = 0 then 0 else 1
theorem l_mark (s : CS) (a1 a2 a3 : Int32) : ∀ (d n k : Nat) (v : Int32), k + d = 36 → d < n → bk_Tr_mark_18 a1 a2 a3 n s v (Int32.ofNat k) = some (v + (pu_s 36 (cOu (cs_A s 6)) - pu_s k (cOu (cs_A s 6))), s) := by
  intro d
  induction d with
  | zero =>
    intro n k v hk hd
    obtain ⟨n, rfl⟩ : ∃ z, n = z + 1 := ⟨n - 1, by omega⟩
    show bk_Tr_mark_18_o a1 a2 a3 (bk_Tr_mark_18 a1 a2 a3 n) s v (Int32.ofNat k) = _
    unfold bk_Tr_mark_18_o
    rw [if_pos ((i36 (j := k) (by omega)).mpr (by omega)), show k = 36 by omega, Int32.sub_self, Int32.add_zero]
  | succ d ih =>
    intro n k v hk hd
    obtain ⟨n, rfl⟩ : ∃ z, n = z + 1 := ⟨n - 1, by omega⟩
    show bk_Tr_mark_18_o a1 a2 a3 (bk_Tr_mark_18 a1 a2 a3 n) s v (Int32.ofNat k) = _
    unfold bk_Tr_mark_18_o bk_Tr_mark_41
    have h6 : ¬ (36 : Int32) ≤ Int32.ofNat k := fun q => by have := (i36 (by omega)).mp q; omega
    have es : pu_s (k + 1) (cOu (cs_A s 6)) = pu_s k (cOu (cs_A s 6)) + cOu (cs_A s 6) k := rfl
    have ih' : ∀ v, bk_Tr_mark_18 a1 a2 a3 n s v (Int32.ofNat (k + 1)) = some (v + (pu_s 36 (cOu (cs_A s 6)) - (pu_s k (cOu (cs_A s 6)) + cOu (cs_A s 6) k)), s) := fun v => by rw [ih n (k + 1) v (by omega) (by omega), es]
    rw [if_neg h6, pi_inR (show k < 36 by omega) (by omega), ct_gd_t, pi_cl (by omega), pi_succ, ih', ih']
    generalize pu_s 36 (cOu (cs_A s 6)) = X
    generalize pu_s k (cOu (cs_A s 6)) = Y
    by_cases c : cs_A s 6 k = 0
    · have e : cOu (cs_A s 6) k = 0 := if_pos c
      rw [if_pos c, e, Int32.add_zero]
    · have e : cOu (cs_A s 6) k = 1 := if_neg c
      have g : v + 1 + (X - (Y + 1)) = v + (X - Y) := by grind
      rw [if_neg c, e, g]
theorem l_mleave (t : MS) (a1 a2 a3 : Int32) : ∀ (d n k : Nat) (v : Int32), k + d = 36 → d < n → bk_Mo_leave_49 a1 a2 a3 n t v (Int32.ofNat k) = some (v + (pu_s 36 (cOu (ms_A t 7)) - pu_s k (cOu (ms_A t 7))), t) := by
  intro d
  induction d with
  | zero =>
    intro n k v hk hd
    obtain ⟨n, rfl⟩ : ∃ z, n = z + 1 := ⟨n - 1, by omega⟩
    show bk_Mo_leave_49_o a1 a2 a3 (bk_Mo_leave_49 a1 a2 a3 n) t v (Int32.ofNat k) = _
    unfold bk_Mo_leave_49_o
    rw [if_pos ((i36 (j := k) (by omega)).mpr (by omega)), show k = 36 by omega, Int32.sub_self, Int32.add_zero]
  | succ d ih =>
    intro n k v hk hd
    obtain ⟨n, rfl⟩ : ∃ z, n = z + 1 := ⟨n - 1, by omega⟩
    show bk_Mo_leave_49_o a1 a2 a3 (bk_Mo_leave_49 a1 a2 a3 n) t v (Int32.ofNat k) = _
    unfold bk_Mo_leave_49_o bk_Mo_leave_73
    have h6 : ¬ (36 : Int32) ≤ Int32.ofNat k := fun q => by have := (i36 (by omega)).mp q; omega
    have es : pu_s (k + 1) (cOu (ms_A t 7)) = pu_s k (cOu (ms_A t 7)) + cOu (ms_A t 7) k := rfl
    have ih' : ∀ v, bk_Mo_leave_49 a1 a2 a3 n t v (Int32.ofNat (k + 1)) = some (v + (pu_s 36 (cOu (ms_A t 7)) - (pu_s k (cOu (ms_A t 7)) + cOu (ms_A t 7) k)), t) := fun v => by rw [ih n (k + 1) v (by omega) (by omega), es]
    rw [if_neg h6, pi_inR (show k < 36 by omega) (by omega), ct_gd_t, pi_cl (by omega), pi_succ, ct_nm_eq, ct_nm_eq, ih', ih']
    generalize pu_s 36 (cOu (ms_A t 7)) = X
    generalize pu_s k (cOu (ms_A t 7)) = Y
    by_cases c : ms_A t 7 k = 0
    · have e : cOu (ms_A t 7) k = 0 := if_pos c
      rw [if_pos c, e, Int32.add_zero, Int32.add_zero]
    · have e : cOu (ms_A t 7) k = 1 := if_neg c
      have g : v + 1 + (X - (Y + 1)) = v + (X - Y) := by grind
      rw [if_neg c, e, g]
theorem nar_b {x : Int32} (h : x = 0 ∨ x = 1) : vp_nar .boolean x = x := by
  rcases h with rfl | rfl <;> rfl
theorem PPleave : PP_leave Inv := by
  intro s t h a1 a2 a3 hb
  obtain ⟨hS, hR, hE, hP, hF, hO, hC⟩ := id h
  have hz := hR.2.2.2.2.1
  unfold fn_CT_leave fn_Mo_leave
  rw [← hS.2.2.2.2.1]
  by_cases c : okC a1 a2 (cs_I s 4)
  · obtain ⟨k1, k2⟩ := (p_cellok (by omega) (by omega)).1 c
    rw [k1, k2, ct_ob_s, ct_ob_s, if_pos rfl]
    have x1 : fn_CT_check s 1 = some (.inr s) := rfl
    unfold fn_Tr_mark bk_Mo_leave_19
    obtain ⟨i, rfl, i1, i2⟩ := pi_ex c.1
    obtain ⟨j, rfl, j1, j2⟩ := pi_ex c.2.1
    have c2 := c.2.2
    have ev : Int32.ofNat i * 6 + Int32.ofNat j = Int32.ofNat (6 * i + j) := by
      rw [show (6 : Int32) = Int32.ofNat 6 from rfl, ← Int32.ofNat_mul, ← Int32.ofNat_add, Nat.mul_comm]
    have ev2 : 6 * Int32.ofNat i + Int32.ofNat j = Int32.ofNat (6 * i + j) := by
      rw [show (6 : Int32) = Int32.ofNat 6 from rfl, ← Int32.ofNat_mul, ← Int32.ofNat_add]
    have hin : 6 * i + j < 36 := by omega
    rw [x1, ct_xb_r, ev, pi_inR hin (by omega), ct_gd_t, ct_nm_eq, pi_cl (by omega), ct_nm_eq, ms_I_self, if_pos rfl, ev2, pi_inR hin (by omega), ct_gd_t, ct_nm_eq, pi_cl (by omega), nar_b hb]
    have z0 : (0 : Int32) = Int32.ofNat 0 := rfl
    have f1 := l_mark (cs_A' s 6 (6 * i + j) a3) (Int32.ofNat i) (Int32.ofNat j) a3 36 200 0 0 (by omega) (by omega)
    have f2 := l_mleave (ms_A' (ms_I' t 0 0) 7 (6 * i + j) a3) (Int32.ofNat i) (Int32.ofNat j) a3 36 200 0 0 (by omega) (by omega)
    rw [← z0] at f1 f2
    rw [f1, f2, ct_ob2_s]
    have same : ∀ k, k < 36 → cs_A (cs_A' s 6 (6 * i + j) a3) 6 k = ms_A (ms_A' (ms_I' t 0 0) 7 (6 * i + j) a3) 7 k ∧ (cs_A (cs_A' s 6 (6 * i + j) a3) 6 k = 0 ∨ cs_A (cs_A' s 6 (6 * i + j) a3) 6 k = 1) := by
      intro k hk
      have u1 : cs_A (cs_A' s 6 (6 * i + j) a3) 6 k = if k = 6 * i + j then a3 else cs_A s 6 k := rfl
      have u2 : ms_A (ms_A' (ms_I' t 0 0) 7 (6 * i + j) a3) 7 k = if k = 6 * i + j then a3 else ms_A t 7 k := rfl
      rw [u1, u2]
      by_cases q : k = 6 * i + j
      · rw [if_pos q, if_pos q]
        exact ⟨rfl, hb⟩
      · rw [if_neg q, if_neg q]
        exact hO k hk
    refine ⟨_, _, _, rfl, rfl, fun k s1 q => (by cases q), rfl, ⟨hS, hR, hE, hP, hF, same, hC⟩, fun v s1 q => ?_⟩
    cases q
    have e : pu_s 36 (cOu (cs_A (cs_A' s 6 (6 * i + j) a3) 6)) = pu_s 36 (cOu (ms_A (ms_A' (ms_I' t 0 0) 7 (6 * i + j) a3) 7)) := pu_ext (fun k hk => by unfold cOu; rw [(same k hk).1])
    rw [e]
    rfl
  · obtain ⟨k1, k2⟩ := (p_cellok (by omega) (by omega)).2 c
    rw [k1, k2, ct_ob_s, ct_ob_s, if_neg pf_one0]
    have x0 : fn_CT_check s 0 = some (.inl (1, s)) := rfl
    unfold bk_Mo_leave_19
    rw [x0, ct_xb_l, ct_nm_eq, ms_I_self, if_neg pf_one0]
    exact ⟨_, _, _, rfl, rfl, fun k s1 q => (by cases q; rfl), rfl, h.thr, fun v s1 q => (by cases q)⟩
