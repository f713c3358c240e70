/-! ratio -/
theorem pf_become_pos {s : CS} {f : Nat} {o u : Int64} (ho : o.toInt.natAbs ≤ 4611686018427387904) (hu : 0 < u.toInt) (hu2 : u.toInt ≤ 4611686018427387904) : fn_Fr_become s f o u = some (cs_F' s f (o / pf_g o.toInt u.toInt, u / pf_g o.toInt u.toInt, 0)) := by
  obtain ⟨g1, g2, g3, g4⟩ := pf_T ho hu hu2
  unfold fn_Fr_become bk_Fr_become_33
  have c1 : ¬ lg_cmp u 0 = 0 := fun q => by have := (pf_eq0 u).mp q; omega
  have c2 : 0 ≤ lg_cmp u 0 := pf_ge0.mpr (by omega)
  have zG : ct_gzL (pf_g o.toInt u.toInt) = true := pf_gz (by omega)
  rw [if_pos c1, pf_divisor (by omega) (by omega) (Or.inr (by omega)), ct_ob_s, if_pos c2, zG, ct_gd_t, ct_nm_eq, ct_gd_t, ct_nm_eq, ct_nm_eq]
  have e : ∀ v w : Int64, cs_F2' (cs_F1' (cs_F0' s f v) f w) f 0 = cs_F' s f (v, w, 0) := by
    intro v w
    have e1 : cs_F0' s f v = cs_F' s f (v, (cs_F s f).2.1, (cs_F s f).2.2) := rfl
    rw [e1, cs_F1_at, cs_F2_at]
  rw [e]
theorem p_mratio {t : MS} {a2 a3 : Int32} {k : Nat} {x : Int32} (hk : k < 3) (hx : x = Int32.ofNat k) (h2 : 0 ≤ a2.toInt) (h3 : 1 ≤ a3.toInt) (a1 : Int32) : bk_Mo_ratio_58 a1 a2 a3 t x = some (ms_B' (ms_B' t 0 k (a2.toInt64 / pf_g a2.toInt a3.toInt)) 1 k (a3.toInt64 / pf_g a2.toInt a3.toInt)) := by
  have e2 : a2.toInt64.toInt = a2.toInt := Int32.toInt_toInt64 a2
  have e3 : a3.toInt64.toInt = a3.toInt := Int32.toInt_toInt64 a3
  have b2 := pa_hi32 a2
  have b3 := pa_hi32 a3
  obtain ⟨g1, g2, g3, g4⟩ := pf_T (a := a2.toInt64) (d := a3.toInt64) (by omega) (by omega) (by omega)
  rw [e2, e3] at g1 g2
  unfold bk_Mo_ratio_58
  have zG : ct_gzL (pf_g a2.toInt a3.toInt) = true := pf_gz (by omega)
  rw [pf_mdivisor (by omega) (by omega), ct_ob_s, e2, e3, hx, zG, ct_gd_t, pi_inR hk (by omega), ct_gd_t, ct_nm_eq, ct_gd_t, ct_gd_t, ct_nm_eq, pi_cl (by omega)]
theorem PPratio : PP_ratio Inv := by
  intro s t h a1 a2 a3
  obtain ⟨hS, hR, hE, hP, hF, hO, hC⟩ := id h
  have mbad : bk_Mo_ratio_39 a1 a2 a3 t 1 = some (ms_I' t 0 1) := by
    unfold bk_Mo_ratio_39
    rw [ct_nm_eq, ms_I_self, if_pos pf_one0]
  have bad : ∀ z : Option ((Nat × CS) ⊕ CS), z = some (.inl (1, s)) → ∀ y : Option MS, y = bk_Mo_ratio_39 a1 a2 a3 t 1 → ∃ o t9, z = some o ∧ y = some t9 ∧ AgV Inv (fun k => k = 1) o t9 := fun z hz y hy => ⟨.inl (1, s), ms_I' t 0 1, hz, hy.trans mbad, fun k s1 q => (by cases q; rfl), rfl, h.thr⟩
  have lm : (-1 : Int32).toInt = -1 := rfl
  have x0 : fn_CT_check s 0 = some (.inl (1, s)) := rfl
  have x1 : fn_CT_check s 1 = some (.inr s) := rfl
  have e1 : a1 < -1 ↔ a1.toInt < -1 := by rw [pi_lt32, lm]
  have e2 : 1 < a1 ↔ 1 < a1.toInt := by rw [pi_lt32, l1]
  have e3 : a2 < 0 ↔ a2.toInt < 0 := by rw [pi_lt32, l0]
  have e4 : 9999 < a2 ↔ 9999 < a2.toInt := by rw [pi_lt32, l9999]
  have e5 : a3 < 1 ↔ a3.toInt < 1 := by rw [pi_lt32, l1]
  have e6 : 9999 < a3 ↔ 9999 < a3.toInt := by rw [pi_lt32, l9999]
  have e7 : a3 ≤ 9999 ↔ a3.toInt ≤ 9999 := by rw [pi_le32, l9999]
  have e8 : a1 = -1 ↔ a1.toInt = -1 := ⟨fun q => by rw [q]; rfl, fun q => Int32.toInt.inj q⟩
  have e9 : a1 = 0 ↔ a1.toInt = 0 := ⟨fun q => by rw [q]; rfl, fun q => Int32.toInt.inj q⟩
  have e10 : 0 ≤ a1 ↔ 0 ≤ a1.toInt := by rw [pi_le32, l0]
  have c17bad : bk_CT_ratio_17 a1 a2 a3 s 0 = some (.inl (1, s)) := rfl
  have c47bad : bk_CT_ratio_47 a1 a2 a3 s 0 = some (.inl (1, s)) := rfl
  unfold fn_CT_ratio fn_Mo_ratio
  rw [c17bad, p_isLine, ct_ob_s]
  by_cases hl : a1.toInt < -1 ∨ 1 < a1.toInt
  · have n1 : ¬ a1 = -1 := fun q => by have := e8.mp q; omega
    have n2 : ¬ (¬ a1 < 0 ∧ ¬ 1 < a1) := fun q => by
      rw [e2] at q
      have q1 := q.1
      rw [pi_lt32, l0] at q1
      omega
    rw [if_neg n1, if_neg n2, if_pos rfl]
    by_cases c1 : a1 < -1
    · rw [if_pos c1]
      exact bad _ rfl _ rfl
    · have c2 : 1 < a1 := e2.mpr (by rcases hl with q | q; exact absurd (e1.mpr q) c1; exact q)
      rw [if_neg c1, if_pos c2]
      exact bad _ rfl _ rfl
  · have n1 : ¬ a1 < -1 := fun q => hl (Or.inl (e1.mp q))
    have n2 : ¬ 1 < a1 := fun q => hl (Or.inr (e2.mp q))
    have cl : (if a1 = -1 then bk_CT_ratio_17 a1 a2 a3 s 1 else if (if ¬ a1 < 0 ∧ ¬ 1 < a1 then (1 : Int32) else 0) = 0 then some (.inl (1, s)) else bk_CT_ratio_17 a1 a2 a3 s 1) = bk_CT_ratio_17 a1 a2 a3 s 1 := by
      by_cases q : a1 = -1
      · rw [if_pos q]
      · have y : ¬ a1 < 0 ∧ ¬ 1 < a1 := ⟨fun z => by rw [pi_lt32, l0] at z; have w9 : ¬ a1.toInt = -1 := fun w => q (e8.mpr w); omega, n2⟩
        rw [if_neg q, if_pos y, if_neg pf_one0]
    rw [cl, if_neg n1, if_neg n2]
    unfold bk_CT_ratio_17
    rw [x1, ct_xb_r, p_within, ct_ob_s, p_within, ct_ob_s, c47bad]
    by_cases c3 : a2 < 0
    · have n : ¬ (¬ a2 < 0 ∧ ¬ 9999 < a2) := fun q => q.1 c3
      rw [if_pos c3, if_neg n, if_pos rfl]
      exact bad _ rfl _ rfl
    · by_cases c4 : 9999 < a2
      · have n : ¬ (¬ a2 < 0 ∧ ¬ 9999 < a2) := fun q => q.2 c4
        rw [if_neg c3, if_pos c4, if_neg n, if_pos rfl]
        exact bad _ rfl _ rfl
      · have y : ¬ a2 < 0 ∧ ¬ 9999 < a2 := ⟨c3, c4⟩
        rw [if_neg c3, if_neg c4, if_pos y, if_neg pf_one0]
        by_cases c5 : a3 < 1
        · have n : ¬ (¬ a3 < 1 ∧ ¬ 9999 < a3) := fun q => q.1 c5
          rw [if_pos c5, if_neg n, if_pos rfl]
          exact bad _ rfl _ rfl
        · by_cases c6 : 9999 < a3
          · have n : ¬ (¬ a3 < 1 ∧ ¬ 9999 < a3) := fun q => q.2 c6
            have n7 : ¬ a3 ≤ 9999 := fun q => by have := e7.mp q; have := e6.mp c6; omega
            rw [if_neg c5, if_neg n7, if_neg n, if_pos rfl]
            exact bad _ rfl _ rfl
          · have y6 : ¬ a3 < 1 ∧ ¬ 9999 < a3 := ⟨c5, c6⟩
            have n7 : a3 ≤ 9999 := e7.mpr (by have w9 : ¬ 9999 < a3.toInt := fun q => c6 (e6.mpr q); omega)
            rw [if_neg c5, if_pos n7, if_pos y6, if_neg pf_one0]
            have i3 : ¬ a2.toInt < 0 := fun q => c3 (e3.mpr q)
            have i4 : ¬ 9999 < a2.toInt := fun q => c4 (e4.mpr q)
            have i5 : ¬ a3.toInt < 1 := fun q => c5 (e5.mpr q)
            have i6 : ¬ 9999 < a3.toInt := fun q => c6 (e6.mpr q)
            have f2 : a2.toInt64.toInt = a2.toInt := Int32.toInt_toInt64 a2
            have f3 : a3.toInt64.toInt = a3.toInt := Int32.toInt_toInt64 a3
            obtain ⟨g1, g2, g3, g4⟩ := pf_T (a := a2.toInt64) (d := a3.toInt64) (by omega) (by omega) (by omega)
            rw [f2, f3] at g1 g2 g3 g4
            have key : ∀ (k : Nat), k < 3 → ∃ o t9, (ct_ob (fn_Fr_become s k a2.toInt64 a3.toInt64) fun s7 => some (Sum.inr s7 : (Nat × CS) ⊕ CS)) = some o ∧ some (ms_B' (ms_B' (ms_I' t 0 0) 0 k (a2.toInt64 / pf_g a2.toInt a3.toInt)) 1 k (a3.toInt64 / pf_g a2.toInt a3.toInt)) = some t9 ∧ AgV Inv (fun k => k = 1) o t9 := by
              intro k hk
              rw [pf_become_pos (by omega) (by omega) (by omega), ct_ob_s, f2, f3]
              refine ⟨_, _, rfl, rfl, fun k s1 q => (by cases q), rfl, hS, hR, hE, hP, ?_, hO, hC⟩
              intro j hj
              have u1 : cs_F (cs_F' s k (a2.toInt64 / pf_g a2.toInt a3.toInt, a3.toInt64 / pf_g a2.toInt a3.toInt, 0)) j = if j = k then (a2.toInt64 / pf_g a2.toInt a3.toInt, a3.toInt64 / pf_g a2.toInt a3.toInt, 0) else cs_F s j := rfl
              have u2 : ms_B (ms_B' (ms_B' (ms_I' t 0 0) 0 k (a2.toInt64 / pf_g a2.toInt a3.toInt)) 1 k (a3.toInt64 / pf_g a2.toInt a3.toInt)) 0 j = if j = k then a2.toInt64 / pf_g a2.toInt a3.toInt else ms_B t 0 j := rfl
              have u3 : ms_B (ms_B' (ms_B' (ms_I' t 0 0) 0 k (a2.toInt64 / pf_g a2.toInt a3.toInt)) 1 k (a3.toInt64 / pf_g a2.toInt a3.toInt)) 1 j = if j = k then a3.toInt64 / pf_g a2.toInt a3.toInt else ms_B t 1 j := rfl
              show cs_F (cs_F' s k _) j = (ms_B (ms_B' (ms_B' (ms_I' t 0 0) 0 k _) 1 k _) 0 j, ms_B (ms_B' (ms_B' (ms_I' t 0 0) 0 k _) 1 k _) 1 j, 0) ∧ (0 ≤ (ms_B (ms_B' (ms_B' (ms_I' t 0 0) 0 k _) 1 k _) 0 j).toInt ∧ _) ∧ (1 ≤ (ms_B (ms_B' (ms_B' (ms_I' t 0 0) 0 k _) 1 k _) 1 j).toInt ∧ _)
              rw [u1, u2, u3]
              by_cases q : j = k
              · simp only [if_pos q]
                have p1 := Int.ediv_nonneg (show 0 ≤ a2.toInt by omega) (Int.natCast_nonneg (Int.gcd a2.toInt a3.toInt))
                have p2 := Int.ediv_le_self (Int.gcd a2.toInt a3.toInt : Int) (show 0 ≤ a2.toInt by omega)
                have p3 := pf_pos (show 0 < a3.toInt by omega) (Int.gcd_dvd_right a2.toInt a3.toInt)
                have p4 := Int.ediv_le_self (Int.gcd a2.toInt a3.toInt : Int) (show 0 ≤ a3.toInt by omega)
                exact ⟨trivial, ⟨by omega, by omega⟩, ⟨by omega, by omega⟩⟩
              · simp only [if_neg q]
                exact hF j hj
            unfold bk_CT_ratio_47 bk_Mo_ratio_39 fn_Te_ratioOf
            have z00 : ¬ ¬ (0 : Int32) = 0 := fun q => q rfl
            rw [x1, ct_xb_r, ct_nm_eq, ms_I_self, if_neg z00]
            by_cases q1 : a1 = -1
            · have q2 : ¬ 0 ≤ a1 := fun z => by have := e10.mp z; have := e8.mp q1; omega
              rw [if_neg (fun z => z q1), if_neg q2, p_mratio (a2 := a2) (a3 := a3) (x := 2) (k := 2) (by decide) rfl (by omega) (by omega)]
              exact key 2 (by decide)
            · have q2 : 0 ≤ a1 := e10.mpr (by have w9 : ¬ a1.toInt = -1 := fun z => q1 (e8.mpr z); omega)
              rw [if_pos q1, if_pos q2]
              by_cases q3 : a1 = 0
              · rw [if_neg (fun z => z q3), ct_ob_s, p_mratio (a2 := a2) (a3 := a3) (k := 0) (by decide) q3 (by omega) (by omega)]
                exact key 0 (by decide)
              · have q4 : a1 = Int32.ofNat 1 := Int32.toInt.inj (by
                  have w9 : ¬ a1.toInt = 0 := fun z => q3 (e9.mpr z)
                  have := e10.mp q2
                  show a1.toInt = 1
                  omega)
                rw [if_pos q3, ct_ob_s, p_mratio (a2 := a2) (a3 := a3) (k := 1) (by decide) q4 (by omega) (by omega)]
                exact key 1 (by decide)
