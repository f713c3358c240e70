/-! the reference's sumOf is cellS -/
theorem so_est {s : CS} {t : MS} (h : Inv s t) {o B : Nat} (ho : o < 1000) (hB : B ≤ 72) : ∀ (d n k : Nat) (v : Int32), k + d = nE s → d < n → ((pe_best (isE s) (og s) (mth s) o B k = none ∧ v = -1) ∨ ∃ f, pe_best (isE s) (og s) (mth s) o B k = some f ∧ v = Int32.ofNat f ∧ f < 60) → bk_Mo_estimateOf_5 (Int32.ofNat o) (Int32.ofNat B) n t v (Int32.ofNat k) = some (match pe_best (isE s) (og s) (mth s) o B (nE s) with
    | none => 0
    | some f => ms_A t 3 f) := by
  obtain ⟨hS, hR, hE, -⟩ := h
  obtain ⟨hn3, hn4, hn5⟩ := nE_eq hR
  have hok : okE s := fun e he => (hE e he).2.1
  have ht : ms_I t 1 = Int32.ofNat (nE s) := by rw [← hS.1]; exact hn3
  intro d
  induction d with
  | zero =>
    intro n k v hk hd hv
    obtain ⟨n, rfl⟩ : ∃ z, n = z + 1 := ⟨n - 1, by omega⟩
    show bk_Mo_estimateOf_5_o _ _ _ t v (Int32.ofNat k) = _
    unfold bk_Mo_estimateOf_5_o
    have h6 : ms_I t 1 ≤ Int32.ofNat k := by rw [ht]; exact (pi_le (by omega) (by omega)).mpr (by omega)
    rw [if_pos h6, show nE s = k by omega]
    rcases hv with ⟨q1, q2⟩ | ⟨f, q1, q2, q3⟩
    · rw [q1, q2]
      rfl
    · have q4 : 0 ≤ v := by rw [q2]; exact (pi_le (a := 0) (by decide) (by omega)).mpr (by omega)
      rw [if_pos q4, q1, q2, pi_inR q3 (by omega), ct_gd_t, pi_cl (by omega)]
  | succ d ih =>
    intro n k v hk hd hv
    obtain ⟨n, rfl⟩ : ∃ z, n = z + 1 := ⟨n - 1, by omega⟩
    have hk2 : k < nE s := by omega
    obtain ⟨m1, m2, m3, m4, m5⟩ := mth_of hok hR hk2
    obtain ⟨⟨a0, a1', a2', a3'⟩, m, p, lv⟩ := hE k (by omega)
    have t5 : ms_A t 5 k = 0 ↔ ¬ cs_A s 5 k = 0 := by rcases lv with ⟨v1, v2⟩ | ⟨v1, v2⟩ <;> simp [v1, v2]
    have t4 : ms_A t 4 k = 0 ↔ ¬ cs_A s 4 k = 0 := by rcases p with ⟨v1, v2⟩ | ⟨v1, v2⟩ <;> simp [v1, v2]
    have t0 : ms_A t 0 k = ms_I t 2 ↔ cs_A s 0 k = cs_I s 1 := by rw [← a0, ← hS.2.1]
    have t1 : ms_A t 1 k = Int32.ofNat o ↔ og s k = o := by
      rw [← a1', pn_eq m.1 (by rw [pi_of (by omega)]; omega), pi_cl (by omega)]
      exact Iff.rfl
    have t2 : ms_A t 2 k = Int32.ofNat (mth s k) := by rw [← a2']; exact m1
    have t6 : Int32.ofNat B ≤ ms_A t 2 k ↔ B ≤ mth s k := by rw [t2]; exact pi_le (by omega) (by omega)
    show bk_Mo_estimateOf_5_o _ _ _ t v (Int32.ofNat k) = _
    have skip : ¬ (isE s k = true ∧ og s k = o ∧ mth s k < B) → bk_Mo_estimateOf_5 (Int32.ofNat o) (Int32.ofNat B) n t v (Int32.ofNat (k + 1)) = some (match pe_best (isE s) (og s) (mth s) o B (nE s) with
      | none => 0
      | some f => ms_A t 3 f) := by
      intro c
      refine ih n (k + 1) v (by omega) (by omega) ?_
      have e : pe_best (isE s) (og s) (mth s) o B (k + 1) = pe_best (isE s) (og s) (mth s) o B k := by
        conv => lhs; unfold pe_best
        rw [if_neg c]
      rw [e]
      exact hv
    unfold bk_Mo_estimateOf_5_o bk_Mo_estimateOf_75 bk_Mo_estimateOf_108
    have h6 : ¬ ms_I t 1 ≤ Int32.ofNat k := by rw [ht]; exact fun q => by have := (pi_le (by omega) (by omega)).mp q; omega
    have z0 : ¬ (1 : Int32) = 0 := by decide
    rw [if_neg h6]
    simp only [pi_inR (show k < 60 by omega) (show 60 ≤ 2147483648 by omega), ct_gd_t, pi_cl (show k < 2147483648 by omega), pi_succ, if_true, if_neg z0]
    by_cases c4 : ms_A t 4 k = 0
    · rw [if_neg (fun q => q c4)]
      by_cases c5 : ms_A t 5 k = 0
      · rw [if_neg (fun q => q c5)]
        by_cases c0 : ms_A t 0 k = ms_I t 2
        · rw [if_neg (fun q => q c0)]
          by_cases c1 : ms_A t 1 k = Int32.ofNat o
          · rw [if_neg (fun q => q c1)]
            by_cases c6 : Int32.ofNat B ≤ ms_A t 2 k
            · rw [if_pos c6]
              exact skip (fun q => by have := t6.mp c6; omega)
            · rw [if_neg c6]
              have c6' : ¬ B ≤ mth s k := fun q => c6 (t6.mpr q)
              have eE : isE s k = true := by unfold isE lvs; simp [t5.mp c5, t4.mp c4, t0.mp c0]
              have cc : isE s k = true ∧ og s k = o ∧ mth s k < B := ⟨eE, t1.mp c1, by omega⟩
              rcases hv with ⟨q1, q2⟩ | ⟨f, q1, q2, q3⟩
              · have q4 : v < 0 := by rw [q2]; decide
                rw [if_pos q4]
                refine ih n (k + 1) _ (by omega) (by omega) (Or.inr ⟨k, ?_, rfl, by omega⟩)
                conv => lhs; unfold pe_best
                rw [if_pos cc, q1]
              · have q4 : ¬ v < 0 := by rw [q2, pi_lt32, pi_of (by omega), l0]; omega
                obtain ⟨f1, -, -⟩ := pe_best_some (isE s) (og s) (mth s) o B k f q1
                obtain ⟨w1, w2, w3, w4, w5⟩ := mth_of hok hR (e := f) (by omega)
                obtain ⟨⟨b0, b1, b2, b3⟩, -⟩ := hE f (by omega)
                have t2f : ms_A t 2 f = Int32.ofNat (mth s f) := by rw [← b2]; exact w1
                rw [if_neg q4, q2, pi_inR q3 (by omega), ct_gd_t, pi_cl (by omega), t2, t2f]
                by_cases c7 : Int32.ofNat (mth s k) < Int32.ofNat (mth s f)
                · rw [if_pos c7]
                  have c7' := (pi_lt (by omega) (by omega)).mp c7
                  refine ih n (k + 1) _ (by omega) (by omega) (Or.inr ⟨f, ?_, rfl, q3⟩)
                  conv => lhs; unfold pe_best
                  rw [if_pos cc, q1]
                  exact if_neg (by omega)
                · rw [if_neg c7]
                  have c7' : ¬ mth s k < mth s f := fun q => c7 ((pi_lt (by omega) (by omega)).mpr q)
                  refine ih n (k + 1) _ (by omega) (by omega) (Or.inr ⟨k, ?_, rfl, by omega⟩)
                  conv => lhs; unfold pe_best
                  rw [if_pos cc, q1]
                  exact if_pos (by omega)
          · rw [if_pos c1]
            exact skip (fun q => c1 (t1.mpr q.2.1))
        · rw [if_pos c0]
          exact skip (fun q => by have := q.1; unfold isE lvs at this; simp at this; exact c0 (t0.mpr this.1.2))
      · rw [if_pos c5]
        exact skip (fun q => by have := q.1; unfold isE lvs at this; simp at this; exact c5 (t5.mpr this.1.1))
    · rw [if_pos c4]
      exact skip (fun q => by have := q.1; unfold isE lvs at this; simp at this; exact c4 (t4.mpr this.2))
