def eBest (s : CS) (o B : Nat) : Int32 := match pe_best (isE s) (og s) (mth s) o B (nE s) with
  | none => 0
  | some f => cs_A s 3 f
theorem so_estimate {s : CS} {t : MS} (h : Inv s t) {o B : Nat} (ho : o < 1000) (hB : B ≤ 72) : fn_Mo_estimateOf t (Int32.ofNat o) (Int32.ofNat B) = some (eBest s o B) := by
  have hE := h.2.2.1
  obtain ⟨hn3, hn4, hn5⟩ := nE_eq h.2.1
  unfold fn_Mo_estimateOf
  refine (so_est h ho hB (nE s) 200 0 (-1) (by omega) (by omega) (Or.inl ⟨rfl, rfl⟩)).trans ?_
  unfold eBest
  cases hb : pe_best (isE s) (og s) (mth s) o B (nE s) with
  | none => rfl
  | some f =>
    obtain ⟨f1, -, -⟩ := pe_best_some (isE s) (og s) (mth s) o B (nE s) f hb
    show some (ms_A t 3 f) = some (cs_A s 3 f)
    rw [(hE f (by omega)).1.2.2.2]
theorem stp_eq {s : CS} (hr : iR s) : cs_I s 2 = Int32.ofNat (stp s) ∧ 1 ≤ stp s ∧ stp s ≤ 12 ∧ (stp s : Int) = (cs_I s 2).toInt := by
  have q := hr.2.2.1
  have hn := pi_nat (show 0 ≤ (cs_I s 2).toInt by omega)
  refine ⟨Int32.toInt.inj (by rw [pi_of (by unfold stp; omega)]; unfold stp; omega), by unfold stp; omega, by unfold stp; omega, by unfold stp; omega⟩
theorem so_loop1 {s : CS} {t : MS} (h : Inv s t) {i B : Nat} (hi : i < 6) (hB : B ≤ 72) (a2 : Int32) : ∀ (d n k : Nat) (v : Int32), k + d = stp s → d < n → bk_Mo_sumOf_129 (Int32.ofNat i) a2 n t (Int32.ofNat B) v (Int32.ofNat (i * stp s + k)) = some (v + (if cs_I s 3 = 0 then 0 else pu_s (stp s) (fun k => eBest s (i * stp s + k) B) - pu_s k (fun k => eBest s (i * stp s + k) B))) := by
  obtain ⟨hS, hR, -⟩ := id h
  obtain ⟨s1, s2, s3, s4⟩ := stp_eq hR
  have ht : ms_I t 3 = Int32.ofNat (stp s) := by rw [← hS.2.2.1]; exact s1
  have hm : i * stp s ≤ 60 := by
    have := Nat.mul_le_mul (show i ≤ 5 by omega) s3
    omega
  have hend : Int32.ofNat i * ms_I t 3 + ms_I t 3 = Int32.ofNat (i * stp s + stp s) := by rw [ht, ← Int32.ofNat_mul, ← Int32.ofNat_add]
  have hin : ms_I t 4 = 0 ↔ cs_I s 3 = 0 := by rw [← hS.2.2.2.1]
  intro d
  induction d with
  | zero =>
    intro n k v hk hd
    obtain ⟨n, rfl⟩ : ∃ z, n = z + 1 := ⟨n - 1, by omega⟩
    show bk_Mo_sumOf_129_o _ _ _ t _ v _ = _
    unfold bk_Mo_sumOf_129_o
    rw [hend, if_pos ((pi_le (by omega) (by omega)).mpr (by omega)), show k = stp s by omega, Int32.sub_self]
    split <;> rw [Int32.add_zero]
  | succ d ih =>
    intro n k v hk hd
    obtain ⟨n, rfl⟩ : ∃ z, n = z + 1 := ⟨n - 1, by omega⟩
    show bk_Mo_sumOf_129_o _ _ _ t _ v _ = _
    unfold bk_Mo_sumOf_129_o
    have h6 : ¬ Int32.ofNat (i * stp s + stp s) ≤ Int32.ofNat (i * stp s + k) := fun q => by have := (pi_le (by omega) (by omega)).mp q; omega
    rw [hend, if_neg h6]
    by_cases c : cs_I s 3 = 0
    · rw [if_pos (hin.mpr c), if_pos c, Int32.add_zero]
    · rw [if_neg (fun q => c (hin.mp q)), so_estimate h (by omega) hB, ct_ob_s, ct_nm_eq, pi_succ, show i * stp s + k + 1 = i * stp s + (k + 1) by omega, ih n (k + 1) _ (by omega) (by omega), if_neg c, if_neg c]
      have es : pu_s (k + 1) (fun k => eBest s (i * stp s + k) B) = pu_s k (fun k => eBest s (i * stp s + k) B) + eBest s (i * stp s + k) B := rfl
      rw [es]
      generalize pu_s (stp s) (fun k => eBest s (i * stp s + k) B) = X
      generalize pu_s k (fun k => eBest s (i * stp s + k) B) = Y
      congr 1
      grind
def payC (s : CS) (i B e : Nat) : Int32 := if isP s e = true ∧ og s e / stp s = i ∧ mth s e < B then cs_A s 3 e else 0
theorem so_loop2 {s : CS} {t : MS} (h : Inv s t) {i B : Nat} (hi : i < 6) (hB : B ≤ 72) (a2 : Int32) : ∀ (d n k : Nat) (v : Int32), k + d = nE s → d < n → bk_Mo_sumOf_17 (Int32.ofNat i) a2 n t (Int32.ofNat B) v (Int32.ofNat k) = some (v + (pu_s (nE s) (payC s i B) - pu_s k (payC s i B)) + (if cs_I s 3 = 0 then 0 else pu_s (stp s) (fun k => eBest s (i * stp s + k) B))) := by
  obtain ⟨hS, hR, hE, -⟩ := id h
  obtain ⟨s1, s2, s3, s4⟩ := stp_eq hR
  obtain ⟨hn3, hn4, hn5⟩ := nE_eq hR
  have hok : okE s := fun e he => (hE e he).2.1
  have ht : ms_I t 1 = Int32.ofNat (nE s) := by rw [← hS.1]; exact hn3
  have ht3 : ms_I t 3 = Int32.ofNat (stp s) := by rw [← hS.2.2.1]; exact s1
  have hgz : ct_gzI (ms_I t 3) = true := decide_eq_true (fun e => by rw [ht3] at e; have := congrArg Int32.toInt e; rw [pi_of (by omega), l0] at this; omega)
  intro d
  induction d with
  | zero =>
    intro n k v hk hd
    obtain ⟨n, rfl⟩ : ∃ z, n = z + 1 := ⟨n - 1, by omega⟩
    show bk_Mo_sumOf_17_o _ _ _ t _ v _ = _
    unfold bk_Mo_sumOf_17_o
    have h6 : ms_I t 1 ≤ Int32.ofNat k := by rw [ht]; exact (pi_le (by omega) (by omega)).mpr (by omega)
    have e0 : Int32.ofNat i * ms_I t 3 = Int32.ofNat (i * stp s + 0) := by rw [ht3, ← Int32.ofNat_mul]; rfl
    rw [if_pos h6, ct_nm_eq, e0, so_loop1 h hi hB a2 (stp s) 200 0 v (by omega) (by omega), show k = nE s by omega, Int32.sub_self, Int32.add_zero]
    have z : pu_s 0 (fun k => eBest s (i * stp s + k) B) = 0 := rfl
    rw [z, Int32.sub_zero]
  | succ d ih =>
    intro n k v hk hd
    obtain ⟨n, rfl⟩ : ∃ z, n = z + 1 := ⟨n - 1, by omega⟩
    have hk2 : k < nE s := by omega
    obtain ⟨m1, m2, m3, m4, m5⟩ := mth_of hok hR hk2
    obtain ⟨⟨a0, a1', a2', a3'⟩, m, p, lv⟩ := hE k (by omega)
    have t5 : ms_A t 5 k = 0 ↔ ¬ cs_A s 5 k = 0 := by rcases lv with ⟨v1, v2⟩ | ⟨v1, v2⟩ <;> simp [v1, v2]
    have t4 : ms_A t 4 k = 0 ↔ ¬ cs_A s 4 k = 0 := by rcases p with ⟨v1, v2⟩ | ⟨v1, v2⟩ <;> simp [v1, v2]
    have t0 : ms_A t 0 k = ms_I t 2 ↔ cs_A s 0 k = cs_I s 1 := by rw [← a0, ← hS.2.1]
    have t2 : ms_A t 2 k = Int32.ofNat (mth s k) := by rw [← a2']; exact m1
    have t6 : Int32.ofNat B ≤ ms_A t 2 k ↔ B ≤ mth s k := by rw [t2]; exact pi_le (by omega) (by omega)
    have hdv := pi_div (a := cs_A s 1 k) (b := cs_I s 2) m.1 (by omega)
    have t1 : ms_A t 1 k / ms_I t 3 = Int32.ofNat i ↔ og s k / stp s = i := by
      rw [← a1', ← hS.2.2.1]
      constructor
      · intro q
        have q := congrArg Int32.toInt q
        rw [hdv, pi_of (by omega)] at q
        have q : (cs_A s 1 k).toNatClampNeg / (cs_I s 2).toNatClampNeg = i := by omega
        exact q
      · intro q
        have q : (cs_A s 1 k).toNatClampNeg / (cs_I s 2).toNatClampNeg = i := q
        exact Int32.toInt.inj (by rw [hdv, pi_of (by omega), q])
    have es : pu_s (k + 1) (payC s i B) = pu_s k (payC s i B) + payC s i B k := rfl
    have ih' : ∀ v, bk_Mo_sumOf_17 (Int32.ofNat i) a2 n t (Int32.ofNat B) v (Int32.ofNat (k + 1)) = some (v + (pu_s (nE s) (payC s i B) - (pu_s k (payC s i B) + payC s i B k)) + (if cs_I s 3 = 0 then 0 else pu_s (stp s) (fun k => eBest s (i * stp s + k) B))) := fun v => by rw [ih n (k + 1) v (by omega) (by omega), es]
    show bk_Mo_sumOf_17_o _ _ _ t _ v _ = _
    unfold bk_Mo_sumOf_17_o bk_Mo_sumOf_92 bk_Mo_sumOf_112
    have h6 : ¬ ms_I t 1 ≤ Int32.ofNat k := by rw [ht]; exact fun q => by have := (pi_le (by omega) (by omega)).mp q; omega
    have z0 : ¬ (1 : Int32) = 0 := by decide
    rw [if_neg h6]
    simp only [pi_inR (show k < 60 by omega) (show 60 ≤ 2147483648 by omega), ct_gd_t, pi_cl (show k < 2147483648 by omega), pi_succ, if_true, if_neg z0, hgz, ct_nm_eq, ih']
    generalize pu_s (nE s) (payC s i B) = X
    generalize pu_s k (payC s i B) = Y
    generalize (if cs_I s 3 = 0 then 0 else pu_s (stp s) (fun k => eBest s (i * stp s + k) B)) = Z
    have no : ¬ (isP s k = true ∧ og s k / stp s = i ∧ mth s k < B) → some (v + 0 + (X - (Y + payC s i B k)) + Z) = some (v + (X - Y) + Z) := by
      intro c
      have e : payC s i B k = 0 := if_neg c
      rw [e, Int32.add_zero, Int32.add_zero]
    by_cases c4 : ms_A t 4 k = 0
    · rw [if_pos c4]
      exact no (fun q => by have := q.1; unfold isP lvs at this; simp at this; exact (t4.mp c4) this.2)
    · rw [if_neg c4]
      by_cases c5 : ms_A t 5 k = 0
      · rw [if_neg (fun q => q c5)]
        by_cases c0 : ms_A t 0 k = ms_I t 2
        · rw [if_neg (fun q => q c0)]
          by_cases c1 : ms_A t 1 k / ms_I t 3 = Int32.ofNat i
          · rw [if_neg (fun q => q c1)]
            by_cases c6 : Int32.ofNat B ≤ ms_A t 2 k
            · rw [if_pos c6]
              exact no (fun q => by have := t6.mp c6; omega)
            · rw [if_neg c6]
              have c6' : ¬ B ≤ mth s k := fun q => c6 (t6.mpr q)
              have n4 : cs_A s 4 k = 0 := Decidable.byContradiction fun q => c4 (t4.mpr q)
              have e : payC s i B k = cs_A s 3 k := if_pos ⟨by unfold isP lvs; simp [t5.mp c5, t0.mp c0, n4], t1.mp c1, by omega⟩
              rw [e, ← a3']
              congr 1
              grind
          · rw [if_pos c1]
            exact no (fun q => c1 (t1.mpr q.2.1))
        · rw [if_pos c0]
          exact no (fun q => by have := q.1; unfold isP lvs at this; simp at this; exact c0 (t0.mpr this.1.2))
      · rw [if_pos c5]
        exact no (fun q => by have := q.1; unfold isP lvs at this; simp at this; exact c5 (t5.mpr this.1.1))
theorem so_sum {s : CS} {t : MS} (h : Inv s t) {i j : Nat} (hij : i + j < (cs_I s 4).toNatClampNeg) : fn_Mo_sumOf t (Int32.ofNat i) (Int32.ofNat j) = some (cellS s i j) := by
  obtain ⟨hS, hR, hE, -⟩ := id h
  obtain ⟨s1, s2, s3, s4⟩ := stp_eq hR
  obtain ⟨hn3, hn4, hn5⟩ := nE_eq hR
  have q4 := hR.2.2.2.2.1
  have n4 := pi_nat (show 0 ≤ (cs_I s 4).toInt by omega)
  have hB : (i + j + 1) * stp s ≤ 72 := by
    have h8 : (i + j + 1) * stp s ≤ 6 * 12 := Nat.mul_le_mul (by omega) s3
    omega
  unfold fn_Mo_sumOf
  have e1 : (Int32.ofNat i + Int32.ofNat j + 1) * ms_I t 3 = Int32.ofNat ((i + j + 1) * stp s) := by
    rw [← hS.2.2.1, s1, ← Int32.ofNat_add, pi_succ, ← Int32.ofNat_mul]
  rw [ct_nm_eq, e1]
  refine (so_loop2 h (show i < 6 by omega) hB (Int32.ofNat j) (nE s) 200 0 0 (by omega) (by omega)).trans ?_
  have z : pu_s 0 (payC s i ((i + j + 1) * stp s)) = 0 := rfl
  rw [z, Int32.sub_zero, Int32.zero_add]
  rfl
theorem PPcell : PP_cell Inv := by
  intro s t h a1 a2
  obtain ⟨hS, hR, hE, hP, hF, hO, hC⟩ := id h
  have hz := hR.2.2.2.2.1
  have hh := hR.2.2.2.2.2.1
  have n4 := pi_nat (show 0 ≤ (cs_I s 4).toInt by omega)
  have ez : (cs_I s 4 - cs_I s 5).toInt = (cs_I s 4).toInt - (cs_I s 5).toInt := by rw [Int32.toInt_sub, pa_bm32 (by omega) (by omega)]
  unfold fn_CT_cell fn_Mo_cell fn_Tr_shown fn_Mo_left
  rw [← hS.2.2.2.2.1, ← hS.2.2.2.2.2.1, ct_ob_s, ct_ob_s]
  by_cases c : okC a1 a2 (cs_I s 4 - cs_I s 5)
  · obtain ⟨k1, k2⟩ := (p_cellok (by omega) (by omega)).1 c
    rw [k1, k2, ct_ob_s, ct_ob_s, if_pos rfl]
    have x1 : fn_CT_check s 1 = some (.inr s) := rfl
    obtain ⟨c1, c2, c3⟩ := c
    rw [ez] at c3
    obtain ⟨i, rfl, i1, i2⟩ := pi_ex c1
    obtain ⟨j, rfl, j1, j2⟩ := pi_ex c2
    unfold bk_Mo_cell_19
    have z00 : ¬ ¬ (0 : Int32) = 0 := fun q => q rfl
    rw [x1, ct_xb_r, pi_inR (show i < 6 by omega) (by omega), ct_gd_t, pi_inR (show j < 6 by omega) (by omega), ct_gd_t, ct_nm_eq, ms_I_self, if_neg z00, so_sum (t := ms_I' t 0 0) h.thr (by omega), ct_ob_s, pi_cl (by omega), pi_cl (by omega)]
    exact ⟨_, _, _, rfl, rfl, fun k s1 q => (by cases q), rfl, h.thr, fun v s1 q => (by cases q; exact hC i j (by omega))⟩
  · obtain ⟨k1, k2⟩ := (p_cellok (by omega) (by omega)).2 c
    rw [k1, k2, ct_ob_s, ct_ob_s, if_neg pf_one0]
    have x0 : fn_CT_check s 0 = some (.inl (1, s)) := rfl
    unfold bk_Mo_cell_19
    rw [x0, ct_xb_l, ct_nm_eq, ms_I_self, if_pos pf_one0]
    exact ⟨_, _, _, rfl, rfl, fun k s1 q => (by cases q; rfl), rfl, h.thr, fun v s1 q => (by cases q)⟩
