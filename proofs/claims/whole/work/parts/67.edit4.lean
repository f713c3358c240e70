theorem PPpremium : PP_premium Inv := by
  intro s t h a1 a2 a3
  obtain ⟨hS, hR, hE, hP, hF, hO, hC⟩ := id h
  have bad : ∀ z : Option ((Nat × CS) ⊕ CS), z = bk_CT_premium_33 a1 a2 a3 s 0 → ∀ y : Option MS, y = bk_Mo_premium_35 a1 a2 a3 t 1 → ∃ o t9, z = some o ∧ y = some t9 ∧ AgV Inv (fun k => k = 1) o t9 := by
    intro z hz y hy
    refine ⟨.inl (1, s), ms_I' t 0 1, hz.trans rfl, hy.trans ?_, fun k s1 q => (by cases q; rfl), rfl, h.thr⟩
    unfold bk_Mo_premium_35
    rw [ct_nm_eq, ms_I_self, if_pos pf_one0]
  have e1 : a2 < 0 ↔ a2.toInt < 0 := by rw [pi_lt32, l0]
  have e2 : 71 < a2 ↔ 71 < a2.toInt := by rw [pi_lt32, l71]
  have e3 : a3 < 0 ↔ a3.toInt < 0 := by rw [pi_lt32, l0]
  have e4 : 9999 < a3 ↔ 9999 < a3.toInt := by rw [pi_lt32, l9999]
  have e5 : a3 ≤ 9999 ↔ ¬ 9999 < a3.toInt := by rw [pi_le32, l9999]; omega
  unfold fn_CT_premium fn_Mo_premium
  by_cases hl : okL a1
  · rw [((p_line a1).1 hl).1, ((p_line a1).1 hl).2, ct_ob_s, ct_ob_s, if_neg pf_one0, if_neg (fun q => q rfl), p_within, ct_ob_s, p_within, ct_ob_s]
    by_cases c1 : a2 < 0
    · have n : ¬ (¬ a2 < 0 ∧ ¬ 71 < a2) := fun q => q.1 c1
      rw [if_pos c1, if_neg n, if_pos rfl]
      exact bad _ rfl _ rfl
    · rw [if_neg c1]
      by_cases c2 : 71 < a2
      · have n : ¬ (¬ a2 < 0 ∧ ¬ 71 < a2) := fun q => q.2 c2
        rw [if_pos c2, if_neg n, if_pos rfl]
        exact bad _ rfl _ rfl
      · have y : ¬ a2 < 0 ∧ ¬ 71 < a2 := ⟨c1, c2⟩
        rw [if_neg c2, if_pos y, if_neg pf_one0]
        by_cases c3 : a3 < 0
        · have n : ¬ (¬ a3 < 0 ∧ ¬ 9999 < a3) := fun q => q.1 c3
          rw [if_pos c3, if_neg n, if_pos rfl]
          exact bad _ rfl _ rfl
        · rw [if_neg c3]
          by_cases c4 : 9999 < a3
          · have n : ¬ (¬ a3 < 0 ∧ ¬ 9999 < a3) := fun q => q.2 c4
            have n2 : ¬ a3 ≤ 9999 := fun q => e5.mp q (e4.mp c4)
            rw [if_neg n2, if_neg n, if_pos rfl]
            exact bad _ rfl _ rfl
          · have n2 : a3 ≤ 9999 := e5.mpr (fun q => c4 (e4.mpr q))
            have y2 : ¬ a3 < 0 ∧ ¬ 9999 < a3 := ⟨c3, c4⟩
            rw [if_pos n2, if_pos y2, if_neg pf_one0]
            have x1 : fn_CT_check s 1 = some (.inr s) := rfl
            unfold bk_CT_premium_33 bk_Mo_premium_35
            rw [e1] at c1
            rw [e2] at c2
            rw [e3] at c3
            rw [e4] at c4
            obtain ⟨li, rfl, l1', l2'⟩ := pi_ex hl.1
            obtain ⟨oi, rfl, o1', o2'⟩ := pi_ex (show 0 ≤ a2.toInt by omega)
            have hl2 := hl.2
            have ev : (72 : Int32) * Int32.ofNat li + Int32.ofNat oi = Int32.ofNat (72 * li + oi) := by
              rw [show (72 : Int32) = Int32.ofNat 72 from rfl, ← Int32.ofNat_mul, ← Int32.ofNat_add]
            rw [x1, ct_xb_r, pi_inR (show li < 2 by omega) (by omega), ct_gd_t, pi_inR (show oi < 72 by omega) (by omega), ct_gd_t, ct_nm_eq, ct_nm_eq, ms_I_self, if_neg (fun q => q rfl), ev, pi_inR (show 72 * li + oi < 144 by omega) (by omega), ct_gd_t, ct_nm_eq, pi_cl (by omega), pi_cl (by omega), pi_cl (by omega)]
            refine ⟨_, _, rfl, rfl, fun k s1 q => (by cases q), rfl, hS, hR, hE, ?_, hF, hO, hC⟩
            intro l o hl' ho'
            have u1 : cs_P (cs_P' s li oi a3) l o = if l = li ∧ o = oi then a3 else cs_P s l o := up_at (R := s.2.2.2.1)
            have u2 : ms_A (ms_A' (ms_I' t 0 0) 6 (72 * li + oi) a3) 6 (72 * l + o) = if 72 * l + o = 72 * li + oi then a3 else ms_A t 6 (72 * l + o) := rfl
            show cs_P (cs_P' s li oi a3) l o = ms_A (ms_A' (ms_I' t 0 0) 6 (72 * li + oi) a3) 6 (72 * l + o) ∧ 0 ≤ (cs_P (cs_P' s li oi a3) l o).toInt ∧ (cs_P (cs_P' s li oi a3) l o).toInt ≤ 9999
            rw [u1, u2]
            by_cases q : l = li ∧ o = oi
            · rw [if_pos q, if_pos (by omega)]
              exact ⟨rfl, by omega, by omega⟩
            · rw [if_neg q, if_neg (by omega)]
              exact hP l o hl' ho'
  · rw [((p_line a1).2 hl).1, ((p_line a1).2 hl).2, ct_ob_s, ct_ob_s, if_pos rfl, if_pos pf_one0]
    exact bad _ rfl _ rfl
/-- the counts -/
theorem k_living {s : CS} (hr : iR s) : ∀ (d n k : Nat) (v : Int32), k + d = nE s → d < n → bk_Le_countLiving_4 n s v (Int32.ofNat k) = some (v + (pu_s (nE s) (fun e => if cs_A s 5 e = 0 then 0 else 1) - pu_s k (fun e => if cs_A s 5 e = 0 then 0 else 1))) := by
  have hn := pi_nat hr.1.1
  have hn2 := hr.1.2
  have hn3 : cs_I s 0 = Int32.ofNat (nE s) := Int32.toInt.inj (by rw [pi_of (by unfold nE; omega)]; unfold nE; omega)
  have hn4 : nE s ≤ 60 := by unfold nE; omega
  intro d
  induction d with
  | zero =>
    intro n k v hk hd
    obtain ⟨n, rfl⟩ : ∃ z, n = z + 1 := ⟨n - 1, by omega⟩
    show bk_Le_countLiving_4_o (bk_Le_countLiving_4 n) s v (Int32.ofNat k) = _
    unfold bk_Le_countLiving_4_o
    have h6 : cs_I s 0 ≤ Int32.ofNat k := by rw [hn3]; exact (pi_le (by omega) (by omega)).mpr (by omega)
    rw [if_pos h6, show k = nE s by omega, Int32.sub_self, Int32.add_zero]
  | succ d ih =>
    intro n k v hk hd
    obtain ⟨n, rfl⟩ : ∃ z, n = z + 1 := ⟨n - 1, by omega⟩
    show bk_Le_countLiving_4_o (bk_Le_countLiving_4 n) s v (Int32.ofNat k) = _
    unfold bk_Le_countLiving_4_o bk_Le_countLiving_24
    have h6 : ¬ cs_I s 0 ≤ Int32.ofNat k := by rw [hn3]; exact fun q => by have := (pi_le (by omega) (by omega)).mp q; omega
    rw [if_neg h6, pi_inR (show k < 60 by omega) (by omega), ct_gd_t, pi_cl (by omega), pi_succ, ih n (k + 1) _ (by omega) (by omega), ih n (k + 1) _ (by omega) (by omega)]
    have es : pu_s (k + 1) (fun e => if cs_A s 5 e = 0 then 0 else 1) = pu_s k (fun e => if cs_A s 5 e = 0 then 0 else 1) + (if cs_A s 5 k = 0 then 0 else 1) := rfl
    rw [es]
    generalize pu_s (nE s) (fun e => if cs_A s 5 e = 0 then 0 else 1) = X
    generalize pu_s k (fun e => if cs_A s 5 e = 0 then 0 else 1) = Y
    by_cases c : cs_A s 5 k = 0
    · rw [if_pos c, if_pos c, Int32.add_zero]
    · rw [if_neg c, if_neg c]
      congr 1
      grind
