/-! prepare and find -/
def wnd (s : CS) (m : Int32) : Nat := if m = 1 then (cs_I s 6).toNatClampNeg else 6
def lnk (s : CS) (m : Int32) (j : Nat) : AV := av_quot (lkS s (wnd s m) j (nS s - 1 - j) 0).1.toInt (lkS s (wnd s m) j (nS s - 1 - j) 0).2.toInt
def Prp (s : CS) (m : Int32) (g : Nat → Int64 × Int64 × Int32) : Prop := (∀ k, k < 3 → g k = cs_F s k) ∧ ∀ j, j + 2 ≤ nS s → fr_ok (g (3 + j)) ∧ fv (g (3 + j)) = lnk s m j
theorem wnd_6 {s : CS} (hr : iR s) : cs_I s 6 = Int32.ofNat (wnd s 1) ∧ ∀ m, wnd s m ≤ 6 := by
  have q := hr.2.2.2.2.2.2
  obtain ⟨k, e1, e2, e3⟩ := pi_ex (show 0 ≤ (cs_I s 6).toInt by omega)
  have e4 : wnd s 1 = k := by
    show (cs_I s 6).toNatClampNeg = k
    rw [e1, pi_cl e2]
  refine ⟨by rw [e4]; exact e1, fun m => ?_⟩
  by_cases c : m = 1
  · rw [c]; omega
  · unfold wnd; rw [if_neg c]; omega
theorem lkS_wF {s : CS} {g : Nat → Int64 × Int64 × Int32} {w j : Nat} : ∀ i k, lkS (wF s g) w j i k = lkS s w j i k := by
  intro i
  induction i with
  | zero => intro k; rfl
  | succ i ih =>
    intro k
    show (if k < w ∧ tk s i j = true then ((cs_R s i (j + 1)).toInt64 + (lkS (wF s g) w j i (k + 1)).1, (cs_R s i j).toInt64 + (lkS (wF s g) w j i (k + 1)).2) else lkS (wF s g) w j i k) = _
    rw [ih, ih]
    rfl
theorem down_0 {n j : Nat} (h : j + 2 ≤ n) : Int32.ofNat n - 2 - Int32.ofNat j = Int32.ofNat (n - 1 - j) - 1 := by
  rw [pi_sub2 (by omega), pi_sub (by omega), pi_sub1 (by omega), show n - 2 - j = n - 1 - j - 1 by omega]
theorem pr_link {s : CS} (hr : iR s) {g : Nat → Int64 × Int64 × Int32} (m : Int32) {j : Nat} (hj : j + 2 ≤ nS s) : ∃ x, fn_Re_linkUp (wF s g) (Int32.ofNat j) (Int32.ofNat (wnd s m)) = some (wF s (va_up g (3 + j) x)) ∧ fr_ok x ∧ fv x = lnk s m j := by
  obtain ⟨s1, s2, s3, s4, s5, s6, s7⟩ := nS_eq hr
  unfold fn_Re_linkUp
  have e : fn_Tr_shown (wF s g) = some (Int32.ofNat (nS s)) := cS_eq hr
  have hl := lu_loop (s := wF s g) (j := j) ((wnd_6 hr).2 m) (nS s - 1 - j) 200 0 0 0 (by omega) (by omega) (by omega) (by omega)
  have hl' : bk_Re_linkUp_21 (Int32.ofNat j) (Int32.ofNat (wnd s m)) 200 (wF s g) 0 0 0 (Int32.ofNat (nS s - 1 - j) - 1) = _ := hl
  rw [e, ct_ob_s, ct_nm_eq, down_0 hj, hl', lkS_wF, Int64.zero_add, Int64.zero_add]
  obtain ⟨b1, b2⟩ := lkS_big (s := s) (w := wnd s m) (j := j) (i := nS s - 1 - j) (k := 0) (by omega)
  obtain ⟨x, x1, x2, x3⟩ := pf_become (s := wF s g) (f := 3 + j) b1 b2
  exact ⟨x, x1, x2, x3⟩
theorem pr_loop {s : CS} (hr : iR s) (m a1 : Int32) : ∀ (d n j : Nat) (g : Nat → Int64 × Int64 × Int32), j + d + 1 = nS s → (∀ k, k < 3 → g k = cs_F s k) → (∀ i, i < j → fr_ok (g (3 + i)) ∧ fv (g (3 + i)) = lnk s m i) → d < n → ∃ g', bk_Re_prepare_20 a1 n (wF s g) (Int32.ofNat (wnd s m)) (Int32.ofNat j) = some (wF s g') ∧ Prp s m g' := by
  obtain ⟨s1, s2, s3, s4, s5, s6, s7⟩ := nS_eq hr
  have e : ∀ g, fn_Tr_shown (wF s g) = some (Int32.ofNat (nS s)) := fun g => cS_eq hr
  intro d
  induction d with
  | zero =>
    intro n j g hj h3 hl hn
    obtain ⟨n, rfl⟩ : ∃ z, n = z + 1 := ⟨n - 1, by omega⟩
    refine ⟨g, ?_, h3, fun i hi => hl i (by omega)⟩
    show bk_Re_prepare_20_o a1 (bk_Re_prepare_20 a1 n) (wF s g) _ _ = _
    unfold bk_Re_prepare_20_o
    rw [e, ct_ob_s, pi_sub1 (by omega), if_pos ((pi_le (by omega) (by omega)).mpr (by omega))]
  | succ d ih =>
    intro n j g hj h3 hl hn
    obtain ⟨n, rfl⟩ : ∃ z, n = z + 1 := ⟨n - 1, by omega⟩
    obtain ⟨x, x1, x2, x3⟩ := pr_link hr (g := g) m (show j + 2 ≤ nS s by omega)
    obtain ⟨g', y1, y2⟩ := ih n (j + 1) (va_up g (3 + j) x) (by omega) (fun k hk => by rw [va_up_ne _ _ (by omega)]; exact h3 k hk) (fun i hi => by
      by_cases c : i = j
      · rw [c, va_up_self]; exact ⟨x2, x3⟩
      · rw [va_up_ne _ _ (by omega)]; exact hl i (by omega)) (by omega)
    refine ⟨g', ?_, y2⟩
    show bk_Re_prepare_20_o a1 (bk_Re_prepare_20 a1 n) (wF s g) _ _ = _
    unfold bk_Re_prepare_20_o
    have n1 : ¬ Int32.ofNat (nS s - 1) ≤ Int32.ofNat j := fun q => by have := (pi_le (by omega) (by omega)).mp q; omega
    rw [e, ct_ob_s, pi_sub1 (by omega), if_neg n1, x1, ct_ob_s, pi_succ]
    exact y1
theorem pr_all {s : CS} (hr : iR s) (m : Int32) : ∃ g, fn_Re_prepare s m = some (wF s g) ∧ Prp s m g := by
  obtain ⟨s1, s2, s3, s4, s5, s6, s7⟩ := nS_eq hr
  obtain ⟨g, g1, g2⟩ := pr_loop hr m m (nS s - 1) 200 0 s.2.2.2.2 (by omega) (fun k _ => rfl) (fun i hi => absurd hi (Nat.not_lt_zero i)) (by omega)
  refine ⟨g, ?_, g2⟩
  unfold fn_Re_prepare bk_Re_prepare_17
  by_cases c : m = 1
  · rw [if_neg (fun q => q c), (wnd_6 hr).1]
    rw [c] at g1 ⊢
    exact g1
  · have e : wnd s m = 6 := by unfold wnd; rw [if_neg c]
    rw [e] at g1
    rw [if_pos c]
    exact g1
theorem fi_loop {s : CS} {t : MS} (h : Lk s t) (m : Int32) {j : Nat} : ∀ (r n k : Nat) (a b : Int64), r + j + 1 ≤ nS s → k + r < 6 → r < n → bk_Mo_find_21 m (Int32.ofNat j) n t (Int32.ofNat (nS s)) a b (Int32.ofNat k) (Int32.ofNat r - 1) = fEnd m (Int32.ofNat j) t (Int32.ofNat (nS s)) (a + (lkS s (wnd s m) j r k).1) (b + (lkS s (wnd s m) j r k).2) := by
  obtain ⟨s1, s2, s3, s4, s5, s6, s7⟩ := nS_eq h.1.2.1
  intro r
  induction r with
  | zero =>
    intro n k a b hj hk hn
    obtain ⟨n, rfl⟩ : ∃ z, n = z + 1 := ⟨n - 1, by omega⟩
    have e : Int32.ofNat 0 - 1 < 0 := by decide
    have z1 : a + (lkS s (wnd s m) j 0 k).1 = a := Int64.add_zero a
    have z2 : b + (lkS s (wnd s m) j 0 k).2 = b := Int64.add_zero b
    show bk_Mo_find_21_o _ _ (bk_Mo_find_21 _ _ n) t _ a b _ _ = _
    rw [fEnd_eq e, z1, z2]
  | succ r ih =>
    intro n k a b hj hk hn
    obtain ⟨n, rfl⟩ : ∃ z, n = z + 1 := ⟨n - 1, by omega⟩
    show bk_Mo_find_21_o _ _ (bk_Mo_find_21 _ _ n) t _ a b _ _ = _
    unfold bk_Mo_find_21_o
    have e : ¬ Int32.ofNat r < 0 := fun q => by rw [pi_lt32, pi_of (by omega), l0] at q; omega
    have em : Int32.ofNat r + (-1) = Int32.ofNat r - 1 := (Int32.sub_eq_add_neg _ _).symm
    rw [pi_sub1 (by omega), Nat.add_sub_cancel, if_neg e, mk_takes h.1 (by omega) (show r + j + 1 < nS s by omega), ct_ob_s]
    have skip : ¬ (k < wnd s m ∧ tk s r j = true) → bk_Mo_find_92 m (Int32.ofNat j) (bk_Mo_find_21 m (Int32.ofNat j) n) t (Int32.ofNat (nS s)) a b (Int32.ofNat k) (Int32.ofNat r) = fEnd m (Int32.ofNat j) t (Int32.ofNat (nS s)) (a + (lkS s (wnd s m) j (r + 1) k).1) (b + (lkS s (wnd s m) j (r + 1) k).2) := fun c => by
      have e2 : lkS s (wnd s m) j (r + 1) k = lkS s (wnd s m) j r k := if_neg c
      unfold bk_Mo_find_92
      rw [em, ih n k _ _ (by omega) (by omega) (by omega), e2]
    have take : (k < wnd s m ∧ tk s r j = true) → bk_Mo_find_51 m (Int32.ofNat j) (bk_Mo_find_21 m (Int32.ofNat j) n) t (Int32.ofNat (nS s)) a b (Int32.ofNat k) (Int32.ofNat r) = fEnd m (Int32.ofNat j) t (Int32.ofNat (nS s)) (a + (lkS s (wnd s m) j (r + 1) k).1) (b + (lkS s (wnd s m) j (r + 1) k).2) := fun c => by
      have e2 : lkS s (wnd s m) j (r + 1) k = ((cs_R s r (j + 1)).toInt64 + (lkS s (wnd s m) j r (k + 1)).1, (cs_R s r j).toInt64 + (lkS s (wnd s m) j r (k + 1)).2) := if_pos c
      have a1 := h.2 r (j + 1) (by omega)
      have a2 := h.2 r j (by omega)
      unfold bk_Mo_find_51 bk_Mo_find_92
      rw [pi_6, pi_succ, pi_inR (show 6 * r + j + 1 < 36 by omega) (by omega), ct_gd_t, ct_nm_eq, pi_inR (show 6 * r + j < 36 by omega) (by omega), ct_gd_t, ct_nm_eq, em, pi_succ, pi_cl (show 6 * r + j < 2147483648 by omega), pi_cl (show 6 * r + j + 1 < 2147483648 by omega), a2, Nat.add_assoc (6 * r) j 1, a1, ih n (k + 1) _ _ (by omega) (by omega) (by omega), e2, Int64.add_assoc, Int64.add_assoc]
    by_cases c1 : tk s r j = true
    · rw [if_pos c1, if_neg pf_one0]
      by_cases c2 : m = 1
      · rw [if_neg (fun q => q c2), ← h.1.1.2.2.2.2.2.2, (wnd_6 h.1.2.1).1]
        have w6 := (wnd_6 h.1.2.1).2 1
        by_cases c3 : wnd s 1 ≤ k
        · rw [if_pos ((pi_le (by omega) (by omega)).mpr c3)]
          exact skip (fun q => by rw [c2] at q; omega)
        · rw [if_neg (fun q => c3 ((pi_le (by omega) (by omega)).mp q))]
          exact take ⟨by rw [c2]; omega, c1⟩
      · have e : wnd s m = 6 := by unfold wnd; rw [if_neg c2]
        rw [if_pos c2]
        exact take ⟨by rw [e]; omega, c1⟩
    · rw [if_neg c1, if_pos rfl]
      exact skip (fun q => c1 q.2)
theorem fi_find {s : CS} {t : MS} (h : Lk s t) (m : Int32) {j : Nat} (hj : j + 2 ≤ nS s) : ((lnk s m j).1 = 2 ∧ fn_Mo_find t m (Int32.ofNat j) = some (0, t)) ∨ ((lnk s m j).1 = 0 ∧ ∃ x y, fn_Mo_find t m (Int32.ofNat j) = some (1, ms_L' (ms_L' t 4 x) 5 y) ∧ sp_ok x.toInt y.toInt ∧ (0, x.toInt, y.toInt) = lnk s m j) := by
  obtain ⟨s1, s2, s3, s4, s5, s6, s7⟩ := nS_eq h.1.2.1
  have hl := fi_loop h m (j := j) (nS s - 1 - j) 200 0 0 0 (by omega) (by omega) (by omega)
  have hl' : bk_Mo_find_21 m (Int32.ofNat j) 200 t (Int32.ofNat (nS s)) 0 0 0 (Int32.ofNat (nS s - 1 - j) - 1) = _ := hl
  rw [Int64.zero_add, Int64.zero_add] at hl'
  have hf : fn_Mo_find t m (Int32.ofNat j) = fEnd m (Int32.ofNat j) t (Int32.ofNat (nS s)) (lkS s (wnd s m) j (nS s - 1 - j) 0).1 (lkS s (wnd s m) j (nS s - 1 - j) 0).2 := by
    unfold fn_Mo_find
    rw [mS_eq h.1, ct_ob_s, ct_nm_eq, down_0 hj, hl']
  obtain ⟨b1, b2⟩ := lkS_big (s := s) (w := wnd s m) (j := j) (i := nS s - 1 - j) (k := 0) (by omega)
  obtain ⟨f1, f2⟩ := fi_end (m := m) (j := Int32.ofNat j) (n := Int32.ofNat (nS s)) (t := t) b1 b2
  by_cases c : (lkS s (wnd s m) j (nS s - 1 - j) 0).2.toInt = 0
  · refine Or.inl ⟨?_, hf.trans (f1 c)⟩
    unfold lnk av_quot
    rw [if_pos c]
  · obtain ⟨x, y, z1, z2, z3⟩ := f2 c
    refine Or.inr ⟨?_, x, y, hf.trans z1, z2, z3⟩
    unfold lnk
    rw [← z3]
