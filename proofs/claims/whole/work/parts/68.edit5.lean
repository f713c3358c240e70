def cLv (s : CS) (e : Nat) : Int32 := if cs_A s 5 e = 0 then 0 else 1
def cPy (s : CS) (e : Nat) : Int32 := if isP s e = true then cs_A s 3 e else 0
theorem nE_eq {s : CS} (hr : iR s) : cs_I s 0 = Int32.ofNat (nE s) ∧ nE s ≤ 60 ∧ (nE s : Int) = (cs_I s 0).toInt := by
  have hn := pi_nat hr.1.1
  have hn2 := hr.1.2
  refine ⟨Int32.toInt.inj (by rw [pi_of (by unfold nE; omega)]; unfold nE; omega), by unfold nE; omega, by unfold nE; omega⟩
theorem k_pays {s : CS} (hr : iR s) : ∀ (d n k : Nat) (v : Int32), k + d = nE s → d < n → bk_Le_sumPayments_4 (cs_I s 1) n s v (Int32.ofNat k) = some (v + (pu_s (nE s) (cPy s) - pu_s k (cPy s))) := by
  obtain ⟨hn3, hn4, hn5⟩ := nE_eq hr
  intro d
  induction d with
  | zero =>
    intro n k v hk hd
    obtain ⟨n, rfl⟩ : ∃ z, n = z + 1 := ⟨n - 1, by omega⟩
    show bk_Le_sumPayments_4_o (cs_I s 1) (bk_Le_sumPayments_4 (cs_I s 1) n) s v (Int32.ofNat k) = _
    unfold bk_Le_sumPayments_4_o
    have h6 : cs_I s 0 ≤ Int32.ofNat k := by rw [hn3]; exact (pi_le (by omega) (by omega)).mpr (by omega)
    rw [if_pos h6, show k = nE s by omega, Int32.sub_self, Int32.add_zero]
  | succ d ih =>
    intro n k v hk hd
    obtain ⟨n, rfl⟩ : ∃ z, n = z + 1 := ⟨n - 1, by omega⟩
    show bk_Le_sumPayments_4_o (cs_I s 1) (bk_Le_sumPayments_4 (cs_I s 1) n) s v (Int32.ofNat k) = _
    unfold bk_Le_sumPayments_4_o bk_Le_sumPayments_39
    have h6 : ¬ cs_I s 0 ≤ Int32.ofNat k := by rw [hn3]; exact fun q => by have := (pi_le (by omega) (by omega)).mp q; omega
    have es : pu_s (k + 1) (cPy s) = pu_s k (cPy s) + cPy s k := rfl
    have ih' : ∀ v, bk_Le_sumPayments_4 (cs_I s 1) n s v (Int32.ofNat (k + 1)) = some (v + (pu_s (nE s) (cPy s) - (pu_s k (cPy s) + cPy s k))) := fun v => by rw [ih n (k + 1) v (by omega) (by omega), es]
    rw [if_neg h6, fl_lives s (by omega), ct_ob_s, pi_inR (show k < 60 by omega) (by omega), ct_gd_t, ct_gd_t, pi_cl (by omega), pi_succ, ct_nm_eq, ih', ih']
    generalize pu_s (nE s) (cPy s) = X
    generalize pu_s k (cPy s) = Y
    by_cases c : ¬ cs_A s 5 k = 0 ∧ cs_A s 0 k = cs_I s 1
    · rw [if_pos c, if_neg pf_one0]
      by_cases c4 : cs_A s 4 k = 0
      · have e : cPy s k = cs_A s 3 k := by unfold cPy isP lvs; simp [c, c4]
        rw [if_neg (fun q => q c4), e]
        congr 1
        grind
      · have e : cPy s k = 0 := by unfold cPy isP lvs; simp [c4]
        rw [if_pos c4, e, Int32.add_zero]
    · have e : cPy s k = 0 := by unfold cPy isP lvs; simp [c]
      rw [if_neg c, if_pos rfl, e, Int32.add_zero]
def kEnd (a1 : Int32) (t : MS) (v2 v3 : Int32) : Option (Int32 × MS) := if ms_I t 0 = 0 then (if a1 = 0 then some (ms_I t 1, t) else if a1 = 1 then some (v2, t) else if a1 = 2 then ct_ob (fn_Mo_left t) fun x2 => some (x2, t) else if a1 = 3 then some (ms_I t 6, t) else some (v3, t)) else some (0, t)
theorem k_mcount {s : CS} {t : MS} (h : Inv s t) (a1 : Int32) : ∀ (d n k : Nat) (v2 v3 : Int32), k + d = nE s → d < n → bk_Mo_count_25 a1 n t v2 v3 (Int32.ofNat k) = kEnd a1 t (v2 + (pu_s (nE s) (cLv s) - pu_s k (cLv s))) (v3 + (pu_s (nE s) (cPy s) - pu_s k (cPy s))) := by
  obtain ⟨hS, hR, hE, -⟩ := h
  obtain ⟨hn3, hn4, hn5⟩ := nE_eq hR
  have ht : ms_I t 1 = Int32.ofNat (nE s) := by rw [← hS.1]; exact hn3
  intro d
  induction d with
  | zero =>
    intro n k v2 v3 hk hd
    obtain ⟨n, rfl⟩ : ∃ z, n = z + 1 := ⟨n - 1, by omega⟩
    show bk_Mo_count_25_o a1 (bk_Mo_count_25 a1 n) t v2 v3 (Int32.ofNat k) = _
    unfold bk_Mo_count_25_o
    have h6 : ms_I t 1 ≤ Int32.ofNat k := by rw [ht]; exact (pi_le (by omega) (by omega)).mpr (by omega)
    rw [if_pos h6, show k = nE s by omega, Int32.sub_self, Int32.add_zero, Int32.sub_self, Int32.add_zero]
    rfl
  | succ d ih =>
    intro n k v2 v3 hk hd
    obtain ⟨n, rfl⟩ : ∃ z, n = z + 1 := ⟨n - 1, by omega⟩
    show bk_Mo_count_25_o a1 (bk_Mo_count_25 a1 n) t v2 v3 (Int32.ofNat k) = _
    unfold bk_Mo_count_25_o bk_Mo_count_50 bk_Mo_count_98
    have h6 : ¬ ms_I t 1 ≤ Int32.ofNat k := by rw [ht]; exact fun q => by have := (pi_le (by omega) (by omega)).mp q; omega
    have es : pu_s (k + 1) (cPy s) = pu_s k (cPy s) + cPy s k := rfl
    have es2 : pu_s (k + 1) (cLv s) = pu_s k (cLv s) + cLv s k := rfl
    have ih' : ∀ v w, bk_Mo_count_25 a1 n t v w (Int32.ofNat (k + 1)) = kEnd a1 t (v + (pu_s (nE s) (cLv s) - (pu_s k (cLv s) + cLv s k))) (w + (pu_s (nE s) (cPy s) - (pu_s k (cPy s) + cPy s k))) := fun v w => by rw [ih n (k + 1) v w (by omega) (by omega), es, es2]
    obtain ⟨⟨a0, a1', a2', a3'⟩, m, p, lv⟩ := hE k (by omega)
    rw [if_neg h6]
    simp only [pi_inR (show k < 60 by omega) (show 60 ≤ 2147483648 by omega), ct_gd_t, pi_cl (show k < 2147483648 by omega), pi_succ, ct_nm_eq, ih']
    generalize pu_s (nE s) (cPy s) = X
    generalize pu_s k (cPy s) = Y
    generalize pu_s (nE s) (cLv s) = X2
    generalize pu_s k (cLv s) = Y2
    have t5 : ms_A t 5 k = 0 ↔ ¬ cs_A s 5 k = 0 := by rcases lv with ⟨v1, v2⟩ | ⟨v1, v2⟩ <;> simp [v1, v2]
    have t4 : ms_A t 4 k = 0 ↔ ¬ cs_A s 4 k = 0 := by rcases p with ⟨v1, v2⟩ | ⟨v1, v2⟩ <;> simp [v1, v2]
    have t0 : ms_A t 0 k = ms_I t 2 ↔ cs_A s 0 k = cs_I s 1 := by rw [← a0, ← hS.2.1]
    by_cases c5 : cs_A s 5 k = 0
    · have q5 : ¬ ms_A t 5 k = 0 := fun q => t5.mp q c5
      have e1 : cLv s k = 0 := by unfold cLv; rw [if_pos c5]
      have e2 : cPy s k = 0 := by unfold cPy isP lvs; simp [c5]
      rw [if_neg q5, if_pos q5, e1, e2, Int32.add_zero, Int32.add_zero, Int32.add_zero, Int32.add_zero]
    · have q5 : ms_A t 5 k = 0 := t5.mpr c5
      have e1 : cLv s k = 1 := by unfold cLv; rw [if_neg c5]
      rw [if_pos q5, if_neg (fun q => q q5), e1]
      have g1 : v2 + 1 + (X2 - (Y2 + 1)) = v2 + (X2 - Y2) := by grind
      by_cases c4 : cs_A s 4 k = 0
      · have q4 : ¬ ms_A t 4 k = 0 := fun q => t4.mp q c4
        rw [if_neg q4]
        by_cases c0 : cs_A s 0 k = cs_I s 1
        · have e2 : cPy s k = cs_A s 3 k := by unfold cPy isP lvs; simp [c5, c4, c0]
          rw [if_neg (fun q => q (t0.mpr c0)), g1, e2, ← a3']
          congr 1
          grind
        · have e2 : cPy s k = 0 := by unfold cPy isP lvs; simp [c0]
          rw [if_pos (fun q => c0 (t0.mp q)), g1, e2, Int32.add_zero, Int32.add_zero]
      · have q4 : ms_A t 4 k = 0 := t4.mpr c4
        have e2 : cPy s k = 0 := by unfold cPy isP lvs; simp [c4]
        rw [if_pos q4, g1, e2, Int32.add_zero, Int32.add_zero]
theorem PPcount : PP_count Inv := by
  intro s t h a1
  obtain ⟨hS, hR, -⟩ := id h
  obtain ⟨hn3, hn4, hn5⟩ := nE_eq hR
  have m : ∀ v : Int32, bk_Mo_count_15 a1 t v = kEnd a1 (ms_I' t 0 v) (pu_s (nE s) (cLv s)) (pu_s (nE s) (cPy s)) := by
    intro v
    unfold bk_Mo_count_15
    rw [ct_nm_eq]
    refine (k_mcount (t := ms_I' t 0 v) h.thr a1 (nE s) 200 0 0 0 (by omega) (by omega)).trans ?_
    have z1 : pu_s 0 (cLv s) = 0 := rfl
    have z2 : pu_s 0 (cPy s) = 0 := rfl
    rw [z1, z2, Int32.sub_zero, Int32.sub_zero, Int32.zero_add, Int32.zero_add]
  have w1 : fn_Le_countLiving s = some (pu_s (nE s) (cLv s)) := by
    unfold fn_Le_countLiving
    refine (k_living hR (nE s) 200 0 0 (by omega) (by omega)).trans ?_
    have z1 : pu_s 0 (fun e => if cs_A s 5 e = 0 then (0 : Int32) else 1) = 0 := rfl
    rw [z1, Int32.sub_zero, Int32.zero_add]
    rfl
  have w2 : fn_Le_sumPayments s (cs_I s 1) = some (pu_s (nE s) (cPy s)) := by
    unfold fn_Le_sumPayments
    refine (k_pays hR (nE s) 200 0 0 (by omega) (by omega)).trans ?_
    have z1 : pu_s 0 (cPy s) = 0 := rfl
    rw [z1, Int32.sub_zero, Int32.zero_add]
  unfold fn_CT_count fn_Mo_count
  rw [m, m, w1, w2]
  by_cases c0 : a1 = 0
  · subst c0
    exact ⟨_, _, _, rfl, rfl, fun k s1 q => (by cases q), rfl, h.thr, fun v s1 q => (by cases q; exact hS.1)⟩
  by_cases c1 : a1 = 1
  · subst c1
    exact ⟨_, _, _, rfl, rfl, fun k s1 q => (by cases q), rfl, h.thr, fun v s1 q => (by cases q; rfl)⟩
  by_cases c2 : a1 = 2
  · subst c2
    exact ⟨_, _, _, rfl, rfl, fun k s1 q => (by cases q), rfl, h.thr, fun v s1 q => (by cases q; show cs_I s 4 - cs_I s 5 = ms_I t 5 - ms_I t 6; rw [hS.2.2.2.2.1, hS.2.2.2.2.2.1])⟩
  by_cases c3 : a1 = 3
  · subst c3
    exact ⟨_, _, _, rfl, rfl, fun k s1 q => (by cases q), rfl, h.thr, fun v s1 q => (by cases q; exact hS.2.2.2.2.2.1)⟩
  by_cases c4 : a1 = 4
  · subst c4
    exact ⟨_, _, _, rfl, rfl, fun k s1 q => (by cases q), rfl, h.thr, fun v s1 q => (by cases q; rfl)⟩
  rw [if_neg c0, if_neg c1, if_neg c2, if_neg c3, if_neg c4]
  have i0 : ¬ a1.toInt = 0 := fun q => c0 (Int32.toInt.inj q)
  have i1 : ¬ a1.toInt = 1 := fun q => c1 (Int32.toInt.inj q)
  have i2 : ¬ a1.toInt = 2 := fun q => c2 (Int32.toInt.inj q)
  have i3 : ¬ a1.toInt = 3 := fun q => c3 (Int32.toInt.inj q)
  have i4 : ¬ a1.toInt = 4 := fun q => c4 (Int32.toInt.inj q)
  have l4 : (4 : Int32).toInt = 4 := rfl
  have e : kEnd a1 (ms_I' t 0 1) (pu_s (nE s) (cLv s)) (pu_s (nE s) (cPy s)) = some (0, ms_I' t 0 1) := by
    unfold kEnd
    rw [ms_I_self, if_neg pf_one0]
  rw [e]
  by_cases d0 : a1 < 0
  · rw [if_pos d0]
    exact ⟨_, _, _, rfl, rfl, fun k s1 q => (by cases q; rfl), rfl, h.thr, fun v s1 q => (by cases q)⟩
  · rw [if_neg d0]
    have d1 : ¬ a1 ≤ 4 := fun q => by
      rw [pi_le32, l4] at q
      rw [pi_lt32, l0] at d0
      omega
    rw [if_neg d1]
    exact ⟨_, _, _, rfl, rfl, fun k s1 q => (by cases q; rfl), rfl, h.thr, fun v s1 q => (by cases q)⟩
