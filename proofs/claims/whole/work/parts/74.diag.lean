/-! diagonal -/
theorem pi_sub {a b : Nat} (h : b ≤ a) : Int32.ofNat a - Int32.ofNat b = Int32.ofNat (a - b) := by
  obtain ⟨c, rfl⟩ := Nat.exists_eq_add_of_le' h
  rw [Int32.ofNat_add, Int32.add_sub_cancel, Nat.add_sub_cancel]
theorem pi_sub1 {a : Nat} (h : 1 ≤ a) : Int32.ofNat a - 1 = Int32.ofNat (a - 1) := pi_sub h
theorem pi_sub2 {a : Nat} (h : 2 ≤ a) : Int32.ofNat a - 2 = Int32.ofNat (a - 2) := pi_sub h
def nH (s : CS) : Nat := (cs_I s 5).toNatClampNeg
def nS (s : CS) : Nat := nZ s - nH s
theorem nS_eq {s : CS} (hr : iR s) : cs_I s 5 = Int32.ofNat (nH s) ∧ nH s < nZ s ∧ cs_I s 4 - cs_I s 5 = Int32.ofNat (nS s) ∧ 1 ≤ nS s ∧ nS s ≤ nZ s ∧ nZ s ≤ 6 ∧ nS s + nH s = nZ s := by
  obtain ⟨z1, z2, z3, z4⟩ := nZ_eq hr
  have q := hr.2.2.2.2.2.1
  obtain ⟨k, e1, e2, e3⟩ := pi_ex (show 0 ≤ (cs_I s 5).toInt by omega)
  have e4 : nH s = k := by unfold nH; rw [e1, pi_cl e2]
  have e5 : cs_I s 5 = Int32.ofNat (nH s) := by rw [e4]; exact e1
  have e6 : nH s < nZ s := by omega
  refine ⟨e5, e6, ?_, ?_, ?_, z3, ?_⟩
  · rw [z1, e5, pi_sub (by omega)]
    rfl
  all_goals (unfold nS; omega)
theorem mS_eq {s : CS} {t : MS} (h : Inv s t) : fn_Mo_left t = some (Int32.ofNat (nS s)) := by
  unfold fn_Mo_left
  rw [← h.1.2.2.2.2.1, ← h.1.2.2.2.2.2.1, (nS_eq h.2.1).2.2.1]
theorem cS_eq {s : CS} (h : iR s) : fn_Tr_shown s = some (Int32.ofNat (nS s)) := by
  unfold fn_Tr_shown
  rw [(nS_eq h).2.2.1]
theorem dg_loop {s : CS} {t : MS} (h : Lk s t) {d : Nat} (hd : d < nS s) : ∀ (r n i : Nat) (v : Int32), i + r = d + 1 → r < n → ∃ w, bk_Tr_growth_4 (Int32.ofNat d) n s v (Int32.ofNat i) = some w ∧ bk_Mo_diagonal_38 (Int32.ofNat d) n t v (Int32.ofNat i) = some (w, t) := by
  obtain ⟨-, -, -, -, s5, s6, -⟩ := nS_eq h.1.2.1
  intro r
  induction r with
  | zero =>
    intro n i v hi hn
    obtain ⟨n, rfl⟩ : ∃ z, n = z + 1 := ⟨n - 1, by omega⟩
    have y : Int32.ofNat d < Int32.ofNat i := (pi_lt (by omega) (by omega)).mpr (by omega)
    refine ⟨v, ?_, ?_⟩
    · show bk_Tr_growth_4_o _ (bk_Tr_growth_4 _ n) s v _ = _
      unfold bk_Tr_growth_4_o
      rw [if_pos y]
    · show bk_Mo_diagonal_38_o _ (bk_Mo_diagonal_38 _ n) t v _ = _
      unfold bk_Mo_diagonal_38_o
      rw [if_pos y]
  | succ r ih =>
    intro n i v hi hn
    obtain ⟨n, rfl⟩ : ∃ z, n = z + 1 := ⟨n - 1, by omega⟩
    have y : ¬ Int32.ofNat d < Int32.ofNat i := fun q => by have := (pi_lt (by omega) (by omega)).mp q; omega
    have x1 : Int32.ofNat d - Int32.ofNat i = Int32.ofNat (d - i) := pi_sub (by omega)
    have x2 : (6 : Int32) * Int32.ofNat i + Int32.ofNat d - Int32.ofNat i = Int32.ofNat (6 * i + (d - i)) := by rw [pi_6, pi_sub (by omega), show 6 * i + d - i = 6 * i + (d - i) by omega]
    have a1 := h.2 i (d - i) (by omega)
    show ∃ w, bk_Tr_growth_4_o _ (bk_Tr_growth_4 _ n) s v _ = some w ∧ bk_Mo_diagonal_38_o _ (bk_Mo_diagonal_38 _ n) t v _ = some (w, t)
    unfold bk_Tr_growth_4_o bk_Mo_diagonal_38_o bk_Tr_growth_52 bk_Mo_diagonal_81
    rw [if_neg y, if_neg y, x1, x2, ct_nm_eq, pi_inR (show 6 * i + (d - i) < 36 by omega) (by omega), ct_gd_t, pi_cl (show 6 * i + (d - i) < 2147483648 by omega), a1]
    by_cases e : d = i
    · have c1 : ¬ ¬ Int32.ofNat (d - i) = 0 := fun q => q (by rw [show d - i = 0 by omega]; rfl)
      have c2 : ¬ ¬ Int32.ofNat d = Int32.ofNat i := fun q => q (by rw [e])
      have x0 : ct_inR 0 6 = true := rfl
      have x9 : (0 : Int32).toNatClampNeg = 0 := rfl
      rw [if_neg c1, if_neg c2, pi_inR (show i < 6 by omega) (by omega), ct_gd_t, x0, ct_gd_t, ct_nm_eq, ct_nm_eq, Int32.sub_zero, pi_cl (show i < 2147483648 by omega), x9, show d - i = 0 by omega, pi_succ]
      exact ih n (i + 1) _ (by omega) (by omega)
    · have c1 : ¬ Int32.ofNat (d - i) = 0 := fun q => by have q := congrArg Int32.toInt q; rw [pi_of (by omega), l0] at q; omega
      have c2 : ¬ Int32.ofNat d = Int32.ofNat i := fun q => by have q := congrArg Int32.toInt q; rw [pi_of (by omega), pi_of (by omega)] at q; omega
      have a2 := h.2 i (d - i - 1) (by omega)
      rw [if_pos c1, if_pos c2, pi_inR (show i < 6 by omega) (by omega), ct_gd_t, pi_inR (show d - i < 6 by omega) (by omega), ct_gd_t, ct_gd_t, pi_sub1 (show 1 ≤ d - i by omega), pi_inR (show d - i - 1 < 6 by omega) (by omega), ct_gd_t, pi_sub1 (show 1 ≤ 6 * i + (d - i) by omega), pi_inR (show 6 * i + (d - i) - 1 < 36 by omega) (by omega), ct_gd_t, ct_nm_eq, ct_nm_eq, pi_cl (show i < 2147483648 by omega), pi_cl (show d - i < 2147483648 by omega), pi_cl (show d - i - 1 < 2147483648 by omega), pi_cl (show 6 * i + (d - i) - 1 < 2147483648 by omega), show 6 * i + (d - i) - 1 = 6 * i + (d - i - 1) by omega, a2, pi_succ]
      exact ih n (i + 1) _ (by omega) (by omega)
theorem ag_bad {s : CS} {t : MS} (h : Inv s t) : AgI Inv (fun k => k = 1) (.inl (1, s)) 0 (ms_I' t 0 1) := ⟨fun k s1 q => (by cases q; rfl), rfl, h.thr, fun v s1 q => (by cases q)⟩
theorem agl_bad {s : CS} {t : MS} (h : Inv s t) : AgL Inv (fun k => k = 1 ∨ k = 3 ∨ k = 4) (.inl (1, s)) 0 (ms_I' t 0 1) := ⟨fun k s1 q => (by cases q; exact Or.inl rfl), rfl, h.thr, fun v s1 q => (by cases q)⟩
theorem PPdiagonal : PP_diagonal Inv := by
  intro s t h a1
  obtain ⟨s1, s2, s3, s4, s5, s6, s7⟩ := nS_eq h.2.1
  unfold fn_CT_diagonal fn_Mo_diagonal
  rw [cS_eq h.2.1, ct_ob_s, p_within, ct_ob_s, p_ck, mS_eq h, ct_ob_s, pi_sub1 s4]
  have mbad : bk_Mo_diagonal_18 a1 t 1 = some (0, ms_I' t 0 1) := rfl
  by_cases c1 : a1 < 0
  · have n : ¬ (¬ a1 < 0 ∧ ¬ Int32.ofNat (nS s - 1) < a1) := fun q => q.1 c1
    rw [if_neg n, ct_xb_l, if_pos c1, mbad]
    exact ⟨_, _, _, rfl, rfl, ag_bad h⟩
  · have c1' := c1
    rw [pi_lt32, l0] at c1'
    obtain ⟨d, rfl, d1, d2⟩ := pi_ex (x := a1) (by omega)
    have e1 : Int32.ofNat (nS s - 1) < Int32.ofNat d ↔ nS s - 1 < d := pi_lt (by omega) (by omega)
    have e2 : Int32.ofNat d < Int32.ofNat (nS s) ↔ d < nS s := pi_lt (by omega) (by omega)
    by_cases c2 : d < nS s
    · have n : ¬ Int32.ofNat d < 0 ∧ ¬ Int32.ofNat (nS s - 1) < Int32.ofNat d := ⟨c1, fun q => by have := e1.mp q; omega⟩
      rw [if_pos n, ct_xb_r, if_neg c1, if_pos (e2.mpr c2)]
      unfold bk_Mo_diagonal_18 fn_Tr_growth
      obtain ⟨t', k1, k2, k3, k4⟩ := lk_look (h.thr (v := 0))
      rw [ct_nm_eq, ms_I_self, if_pos rfl, k1, ct_ob_s]
      obtain ⟨w, w1, w2⟩ := dg_loop k2 c2 (d + 1) 200 0 0 (by omega) (by omega)
      have w1' : bk_Tr_growth_4 (Int32.ofNat d) 200 s 0 0 = some w := w1
      have w2' : bk_Mo_diagonal_38 (Int32.ofNat d) 200 t' 0 0 = some (w, t') := w2
      rw [w1', w2', ct_ob_s]
      exact ⟨_, _, _, rfl, rfl, fun k s1 q => (by cases q), k3, k2.1, fun v s1 q => (by cases q; rfl)⟩
    · have n : ¬ (¬ Int32.ofNat d < 0 ∧ ¬ Int32.ofNat (nS s - 1) < Int32.ofNat d) := fun q => q.2 (e1.mpr (by omega))
      rw [if_neg n, ct_xb_l, if_neg c1, if_neg (fun q => c2 (e2.mp q)), mbad]
      exact ⟨_, _, _, rfl, rfl, ag_bad h⟩
