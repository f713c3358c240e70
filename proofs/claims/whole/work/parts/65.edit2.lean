def sNew (s : CS) (n : Nat) (a1 a2 a3 a4 a5 : Int32) : CS := cs_I' (cs_A' (cs_A' (cs_A' (cs_A' (cs_A' (cs_A' s 0 n a1) 1 n a2) 2 n a3) 3 n a4) 4 n (vp_nar .boolean a5)) 5 n (vp_nar .boolean 1)) 0 (Int32.ofNat n + 1)
def tNew (t : MS) (n : Nat) (a1 a2 a3 a4 b : Int32) : MS := ms_I' (ms_A' (ms_A' (ms_A' (ms_A' (ms_A' (ms_A' (ms_I' t 0 0) 0 n a1) 1 n a2) 2 n a3) 3 n a4) 4 n (vp_nar .boolean b)) 5 n (vp_nar .boolean 0)) 1 (Int32.ofNat n + 1)
theorem p_append (s : CS) {n : Nat} (hn : n < 60) (h0 : cs_I s 0 = Int32.ofNat n) (a1 a2 a3 a4 a5 : Int32) : fn_Le_append s a1 a2 a3 a4 a5 = some (Int32.ofNat n, sNew s n a1 a2 a3 a4 a5) := by
  unfold fn_Le_append
  rw [ct_nm_eq, h0, pi_inR hn (by omega), pi_cl (by omega)]
  show some (Int32.ofNat n, cs_I' _ 0 (cs_I s 0 + 1)) = _
  rw [h0]
  rfl
theorem p_mnew (t : MS) {n : Nat} (hn : n < 60) (h0 : ms_I t 1 = Int32.ofNat n) (a1 a2 a3 a4 b : Int32) : bk_Mo_enter_73 a1 a2 a3 a4 b t 0 = some (Int32.ofNat n + 1 - 1, tNew t n a1 a2 a3 a4 b) := by
  unfold bk_Mo_enter_73
  rw [ct_nm_eq, ms_I_self, if_pos rfl]
  have eA : ∀ (u : MS) (k i : Nat) (v : Int32), ms_I (ms_A' u k i v) 1 = ms_I u 1 := fun _ _ _ _ => rfl
  have e0 : ms_I (ms_I' t 0 0) 1 = Int32.ofNat n := h0
  have hi : ct_inR (Int32.ofNat n) 60 = true := pi_inR hn (by omega)
  have hc : (Int32.ofNat n).toNatClampNeg = n := pi_cl (by omega)
  simp only [eA, e0, hi, ct_gd_t, ct_nm_eq, hc]
  rfl
theorem inv_new {s : CS} {t : MS} (h : Inv s t) {n : Nat} (hn : n < 60) (h0 : cs_I s 0 = Int32.ofNat n) {a1 a2 a3 a4 a5 b : Int32} (hm : okM a2 a3) (hab : a5 = 0 ∧ b = 1 ∨ a5 = 1 ∧ b = 0) : ∃ R', fn_Tr_fill (sNew s n a1 a2 a3 a4 a5) = some (cR (sNew s n a1 a2 a3 a4 a5) R') ∧ Inv (cR (sNew s n a1 a2 a3 a4 a5) R') (tNew t n a1 a2 a3 a4 b) := by
  obtain ⟨⟨g1, g2, g3, g4, g5, g6, g7⟩, ⟨r1, r2, r3, r4, r5, r6, r7⟩, hE, hP, hF, hO, hC⟩ := h
  have e1 : Int32.ofNat n + 1 = Int32.ofNat (n + 1) := pi_succ n
  have v0 : cs_I (sNew s n a1 a2 a3 a4 a5) 0 = Int32.ofNat (n + 1) := e1
  have v0i : (cs_I (sNew s n a1 a2 a3 a4 a5) 0).toInt = n + 1 := by rw [v0, pi_of (by omega)]; omega
  have c0 : (cs_I s 0).toInt = n := by rw [h0, pi_of (by omega)]
  refine inv_fill ⟨rfl, g2, g3, g4, g5, g6, g7⟩ ⟨⟨by omega, by omega⟩, r2, r3, r4, r5, r6, r7⟩ ?_ hP hF hO
  intro x hx
  rw [v0i] at hx
  have w0 : cs_A (sNew s n a1 a2 a3 a4 a5) 0 x = upd (cs_A s 0) n a1 x := rfl
  have w1 : cs_A (sNew s n a1 a2 a3 a4 a5) 1 x = upd (cs_A s 1) n a2 x := rfl
  have w2 : cs_A (sNew s n a1 a2 a3 a4 a5) 2 x = upd (cs_A s 2) n a3 x := rfl
  have w3 : cs_A (sNew s n a1 a2 a3 a4 a5) 3 x = upd (cs_A s 3) n a4 x := rfl
  have w4 : cs_A (sNew s n a1 a2 a3 a4 a5) 4 x = upd (cs_A s 4) n (vp_nar .boolean a5) x := rfl
  have w5 : cs_A (sNew s n a1 a2 a3 a4 a5) 5 x = upd (cs_A s 5) n (vp_nar .boolean 1) x := rfl
  have z0 : ms_A (tNew t n a1 a2 a3 a4 b) 0 x = upd (ms_A t 0) n a1 x := rfl
  have z1 : ms_A (tNew t n a1 a2 a3 a4 b) 1 x = upd (ms_A t 1) n a2 x := rfl
  have z2 : ms_A (tNew t n a1 a2 a3 a4 b) 2 x = upd (ms_A t 2) n a3 x := rfl
  have z3 : ms_A (tNew t n a1 a2 a3 a4 b) 3 x = upd (ms_A t 3) n a4 x := rfl
  have z4 : ms_A (tNew t n a1 a2 a3 a4 b) 4 x = upd (ms_A t 4) n (vp_nar .boolean b) x := rfl
  have z5 : ms_A (tNew t n a1 a2 a3 a4 b) 5 x = upd (ms_A t 5) n (vp_nar .boolean 0) x := rfl
  rw [w0, w1, w2, w3, w4, w5, z0, z1, z2, z3, z4, z5]
  unfold upd
  by_cases q : x = n
  · simp only [if_pos q]
    refine ⟨⟨trivial, trivial, trivial, trivial⟩, ⟨hm.1, hm.2.2.1, hm.2.2.2⟩, ?_, Or.inl ⟨rfl, rfl⟩⟩
    rcases hab with ⟨p1, p2⟩ | ⟨p1, p2⟩
    · left
      rw [p1, p2]
      exact ⟨rfl, rfl⟩
    · right
      rw [p1, p2]
      exact ⟨rfl, rfl⟩
  · simp only [if_neg q]
    exact hE x (by omega)
theorem p_enter {s : CS} {t : MS} (h : Inv s t) (a1 a2 a3 a4 a5 b lo : Int32) (hab : a5 = 0 ∧ b = 1 ∧ lo = -9999 ∨ a5 = 1 ∧ b = 0 ∧ lo = 0) :
    (lo.toInt ≤ a4.toInt ∧ a4.toInt ≤ 9999 → ∃ o r t9, fn_CT_enter s a1 a2 a3 a4 a5 = some o ∧ fn_Mo_enter t a1 a2 a3 a4 b = some (r, t9) ∧ AgI Inv (fun k => k = 1 ∨ k = 2) o r t9) ∧
    (¬ (lo.toInt ≤ a4.toInt ∧ a4.toInt ≤ 9999) → fn_Mo_enter t a1 a2 a3 a4 b = some (0, ms_I' t 0 1)) := by
  have hb : b = 0 ∧ lo = 0 ∨ b = 1 ∧ lo = -9999 := by
    rcases hab with ⟨-, p2, p3⟩ | ⟨-, p2, p3⟩
    · exact Or.inr ⟨p2, p3⟩
    · exact Or.inl ⟨p2, p3⟩
  have m1 : bk_Mo_enter_73 a1 a2 a3 a4 b t 1 = some (0, ms_I' t 0 1) := by
    unfold bk_Mo_enter_73
    rw [ct_nm_eq, ms_I_self, if_neg pf_one0]
  obtain ⟨pe1, pe2⟩ := p_menter t a1 a2 a3 a4 b lo hb
  refine ⟨fun ha => ?_, fun ha => (pe2 (fun q => ha q.2.2)).trans m1⟩
  unfold fn_CT_enter
  have x0 : fn_CT_check s 0 = some (.inl (1, s)) := rfl
  have x1 : fn_CT_check s 1 = some (.inr s) := rfl
  by_cases hl : okL a1
  · rw [((p_line a1).1 hl).1, ct_ob_s, x1, ct_xb_r]
    by_cases hm : okM a2 a3
    · rw [((p_months s a2 a3).1 hm).1, ct_xb_r, pe1 ⟨hl, hm, ha⟩]
      have hS := h.1
      have hR := h.2.1
      obtain ⟨n, hn0, hn1, hn2⟩ := pi_ex hR.1.1
      have hn3 := hR.1.2
      by_cases c : cs_I s 0 < 60
      · have c' := c
        rw [pi_lt32, l60] at c'
        rw [if_pos c, p_append s (n := n) (by omega) hn0, ct_ob2_s]
        have e60 : ¬ ms_I t 1 = 60 := by rw [← hS.1]; intro q; rw [q, l60] at c'; omega
        rw [if_neg e60, p_mnew t (n := n) (by omega) (by rw [← hS.1]; exact hn0)]
        obtain ⟨R', f1, f2⟩ := inv_new h (n := n) (by omega) hn0 (a1 := a1) (a4 := a4) (a5 := a5) (b := b) hm (by rcases hab with ⟨p1, p2, -⟩ | ⟨p1, p2, -⟩ <;> simp [p1, p2])
        rw [f1, ct_ob_s]
        refine ⟨_, _, _, rfl, rfl, fun k s1 q => (by cases q), rfl, f2, fun v s1 q => ?_⟩
        cases q
        exact (Int32.add_sub_cancel _ _).symm
      · have c' := c
        rw [pi_lt32, l60] at c'
        have e60 : ms_I t 1 = 60 := by rw [← hS.1]; exact Int32.toInt.inj (by rw [l60]; omega)
        rw [if_neg c, if_pos e60]
        have m2 : bk_Mo_enter_73 a1 a2 a3 a4 b t 2 = some (0, ms_I' t 0 2) := by
          unfold bk_Mo_enter_73
          rw [ct_nm_eq, ms_I_self, if_neg (by decide)]
        exact ⟨_, _, _, rfl, m2, fun k s1 q => (by cases q; exact Or.inr rfl), rfl, h.thr, fun v s1 q => (by cases q)⟩
    · rw [((p_months s a2 a3).2 hm).1, ct_xb_l, pe2 (fun q => hm q.2.1)]
      exact ⟨_, _, _, rfl, m1, fun k s1 q => (by cases q; exact Or.inl rfl), rfl, h.thr, fun v s1 q => (by cases q)⟩
  · rw [((p_line a1).2 hl).1, ct_ob_s, x0, ct_xb_l, pe2 (fun q => hl q.1)]
    exact ⟨_, _, _, rfl, m1, fun k s1 q => (by cases q; exact Or.inl rfl), rfl, h.thr, fun v s1 q => (by cases q)⟩
theorem ob2_some {α β : Type} (q : Option (α × β)) : ct_ob2 q (fun a b => some (a, b)) = q := by
  cases q <;> rfl
theorem xb2_inr {X α γ : Type} (q : Option (X ⊕ (α × γ))) : ct_xb2 q (fun a b => some (.inr (a, b))) = q := by
  rcases q with _ | _ | _ <;> rfl
theorem PPpay : PP_pay Inv := by
  intro s t h a1 a2 a3 a4
  obtain ⟨p1, p2⟩ := p_enter h a1 a2 a3 a4 0 1 (-9999) (Or.inl ⟨rfl, rfl, rfl⟩)
  unfold fn_CT_pay fn_Mo_pay
  rw [ob2_some, p_within, ct_ob_s, p_ck]
  by_cases c : ¬ a4 < -9999 ∧ ¬ 9999 < a4
  · rw [if_pos c, ct_xb_r, xb2_inr]
    rw [pi_lt32, pi_lt32, ln9999, l9999] at c
    exact p1 (by rw [ln9999]; omega)
  · rw [if_neg c, ct_xb_l]
    rw [pi_lt32, pi_lt32, ln9999, l9999] at c
    exact ⟨_, _, _, rfl, p2 (by rw [ln9999]; omega), fun k s1 q => (by cases q; exact Or.inl rfl), rfl, h.thr, fun v s1 q => (by cases q)⟩
theorem PPestimate : PP_estimate Inv := by
  intro s t h a1 a2 a3 a4
  obtain ⟨p1, p2⟩ := p_enter h a1 a2 a3 a4 1 0 0 (Or.inr ⟨rfl, rfl, rfl⟩)
  unfold fn_CT_estimate fn_Mo_estimate
  rw [ob2_some, p_within, ct_ob_s, p_ck]
  by_cases c : ¬ a4 < 0 ∧ ¬ 9999 < a4
  · rw [if_pos c, ct_xb_r, xb2_inr]
    rw [pi_lt32, pi_lt32, l0, l9999] at c
    exact p1 (by rw [l0]; omega)
  · rw [if_neg c, ct_xb_l]
    rw [pi_lt32, pi_lt32, l0, l9999] at c
    exact ⟨_, _, _, rfl, p2 (by rw [l0]; omega), fun k s1 q => (by cases q; exact Or.inl rfl), rfl, h.thr, fun v s1 q => (by cases q)⟩
