/-! deviation: the class's side -/
def dX (s : CS) (j i : Nat) : AV := av_plus (av_neg (av_times (lnk s 0 j) (av_int (cs_R s i j).toInt))) (av_int (cs_R s i (j + 1)).toInt)
def dSq (s : CS) (j i : Nat) : AV := av_times (av_times (dX s j i) (dX s j i)) (av_quot 1 (cs_R s i j).toInt)
def dvA (s : CS) (j : Nat) : Nat → Nat → AV → Nat → AV × Nat
  | _, 0, v, r => (v, r)
  | i, d + 1, v, r => if tk s i j = true then dvA s j (i + 1) d (av_plus v (dSq s j i)) (r + 1) else dvA s j (i + 1) d v r
theorem c_sq {s : CS} {t : MS} (h : Inv s t) {g : Nat → Int64 × Int64 × Int32} (hp : Prp s 0 g) {i j : Nat} (hij : i + j + 1 < nS s) : ∃ g', fn_Re_toSquare (wF s g) (Int32.ofNat i) (Int32.ofNat j) = some (wF s g') ∧ Qf g g' ∧ fr_ok (g' 8) ∧ fv (g' 8) = dSq s j i := by
  have hr := h.2.1
  obtain ⟨s1, s2, s3, s4, s5, s6, s7⟩ := nS_eq hr
  obtain ⟨f1, f2⟩ := hp.2 j (by omega)
  have iR' : ∀ g a b, cs_R (wF s g) a b = cs_R s a b := fun g a b => rfl
  have eF : cs_F (wF s g) (3 + j) = g (3 + j) := rfl
  have u8 : va_up g 8 (g (3 + j)) 8 = g (3 + j) := va_up_self _ _ _
  have e1 : (cs_R s i j).toInt64.toInt = (cs_R s i j).toInt := Int32.toInt_toInt64 _
  have e2 : (cs_R s i (j + 1)).toInt64.toInt = (cs_R s i (j + 1)).toInt := Int32.toInt_toInt64 _
  obtain ⟨g1, a1, a2, a3, a4⟩ := cw_timesW (s := s) (g := va_up g 8 (g (3 + j))) (v := (cs_R s i j).toInt64) (ok_eq u8 f1) (i64_bd _)
  obtain ⟨y, y1, y2, y3⟩ := pf_neg (s := wF s g1) (f := 8) a3
  have v8 : va_up g1 8 y 8 = y := va_up_self _ _ _
  obtain ⟨g2, b1, b2, b3, b4⟩ := cw_plusW (s := s) (g := va_up g1 8 y) (v := (cs_R s i (j + 1)).toInt64) (ok_eq v8 y2) (i64_bd _)
  obtain ⟨g3, c1, c2, c3, c4⟩ := cw_times (s := s) (g := g2) (o := 8) b3 b3
  obtain ⟨x, x1, x2, x3⟩ := pf_become (s := wF s g3) (f := 9) (o := 1) (u := (cs_R s i j).toInt64) (by decide) (i64_bd _)
  have w8 : va_up g3 9 x 8 = g3 8 := va_up_ne _ _ (by decide)
  have w9 : va_up g3 9 x 9 = x := va_up_self _ _ _
  obtain ⟨g4, d1, d2, d3, d4⟩ := cw_times (s := s) (g := va_up g3 9 x) (o := 9) (ok_eq w8 c3) (ok_eq w9 x2)
  have eX : fv (g2 8) = dX s j i := by
    rw [b4, v8, y3]
    show av_plus (av_neg (fv (g1 8))) _ = _
    rw [a4, u8, f2, e1, e2]
    rfl
  refine ⟨g4, ?_, ((Qf.u8.tr a2).tr (Qf.u8.tr b2)).tr (c2.tr (Qf.u9.tr d2)), d3, ?_⟩
  · unfold fn_Re_toSquare
    rw [pi_inR (show j < 5 by omega) (by omega), ct_gd_t, pi_cl (show j < 2147483648 by omega), pf_copy (by omega), ct_ob_s, wF_put, eF, pi_inR (show i < 6 by omega) (by omega), ct_gd_t, pi_inR (show j < 6 by omega) (by omega), ct_gd_t, pi_cl (show i < 2147483648 by omega), iR', a1, y1, ct_ob_s, wF_put, ct_gd_t, pi_succ, pi_inR (show j + 1 < 6 by omega) (by omega), ct_gd_t, pi_cl (show j + 1 < 2147483648 by omega), iR', b1, c1, ct_ob_s, ct_gd_t, ct_gd_t, iR', x1, ct_ob_s, wF_put, d1, ct_ob_s]
  · have l1 : (1 : Int64).toInt = 1 := rfl
    rw [d4, w8, w9, c4, eX, x3, e1, l1]
    rfl
theorem mx_r {r : Nat} (h : r ≤ 6) : ct_mxI (Int32.ofNat r - 1) 0 = Int32.ofNat (r - 1) := by
  rcases Nat.eq_zero_or_pos r with c | c
  · subst c; decide
  · rw [pi_sub1 c]
    unfold ct_mxI
    have n : ¬ Int32.ofNat (r - 1) < 0 := fun q => by rw [pi_lt32, pi_of (by omega), l0] at q; omega
    rw [if_neg n]
theorem cd_loop {s : CS} {t : MS} (h : Inv s t) {j : Nat} (hj : j + 2 ≤ nS s) : ∀ (d n i r : Nat) (g : Nat → Int64 × Int64 × Int32), i + d + j + 1 = nS s → r ≤ i → Prp s 0 g → fr_ok (g 11) → d < n → ∃ g', bk_Re_toDeviation_12 (Int32.ofNat j) n (wF s g) (Int32.ofNat r) (Int32.ofNat i) = some (wF s g') ∧ Prp s 0 g' ∧ fr_ok (g' 8) ∧ fv (g' 8) = av_times (av_quot 1 (((dvA s j i d (fv (g 11)) r).2 - 1 : Nat) : Int)) (dvA s j i d (fv (g 11)) r).1 := by
  have hr := h.2.1
  obtain ⟨s1, s2, s3, s4, s5, s6, s7⟩ := nS_eq hr
  have sh : ∀ g, fn_Tr_shown (wF s g) = some (Int32.ofNat (nS s)) := fun g => cS_eq hr
  intro d
  induction d with
  | zero =>
    intro n i r g hi hri hp h11 hn
    obtain ⟨n, rfl⟩ : ∃ z, n = z + 1 := ⟨n - 1, by omega⟩
    have y : Int32.ofNat (nS s - 1 - j) ≤ Int32.ofNat i := (pi_le (by omega) (by omega)).mpr (by omega)
    have e64 : (Int32.ofNat (r - 1)).toInt64.toInt = ((r - 1 : Nat) : Int) := by
      rw [Int32.toInt_toInt64, pi_of (by omega)]
    obtain ⟨x, x1, x2, x3⟩ := pf_become (s := wF s g) (f := 8) (o := 1) (u := (Int32.ofNat (r - 1)).toInt64) (by decide) (i64_bd _)
    have u8 : va_up g 8 x 8 = x := va_up_self _ _ _
    have u11 : va_up g 8 x 11 = g 11 := va_up_ne _ _ (by decide)
    obtain ⟨g1, a1, a2, a3, a4⟩ := cw_times (s := s) (g := va_up g 8 x) (o := 11) (ok_eq u8 x2) (ok_eq u11 h11)
    refine ⟨g1, ?_, hp.qf hr (Qf.u8.tr a2), a3, ?_⟩
    · show bk_Re_toDeviation_12_o _ (bk_Re_toDeviation_12 _ n) (wF s g) _ _ = _
      unfold bk_Re_toDeviation_12_o
      rw [sh, ct_ob_s, pi_sub1 s4, pi_sub (by omega), if_pos y, mx_r (by omega), x1, ct_ob_s, wF_put, a1, ct_ob_s]
    · have l1 : (1 : Int64).toInt = 1 := rfl
      rw [a4, u8, u11, x3, e64, l1]
      rfl
  | succ d ih =>
    intro n i r g hi hri hp h11 hn
    obtain ⟨n, rfl⟩ : ∃ z, n = z + 1 := ⟨n - 1, by omega⟩
    have y : ¬ Int32.ofNat (nS s - 1 - j) ≤ Int32.ofNat i := fun q => by have := (pi_le (by omega) (by omega)).mp q; omega
    have tkw : fn_Tr_takes (wF s g) (Int32.ofNat i) (Int32.ofNat j) = some (if tk s i j = true then 1 else 0) := lk_takes (s := wF s g) (by omega)
    show ∃ g', bk_Re_toDeviation_12_o _ (bk_Re_toDeviation_12 _ n) (wF s g) _ _ = _ ∧ _
    unfold bk_Re_toDeviation_12_o bk_Re_toDeviation_59
    rw [sh, ct_ob_s, pi_sub1 s4, pi_sub (by omega), if_neg y, tkw, ct_ob_s, pi_succ]
    by_cases c : tk s i j = true
    · obtain ⟨g1, a1, a2, a3, a4⟩ := c_sq h hp (show i + j + 1 < nS s by omega)
      have e11 : g1 11 = g 11 := a2 11 (by decide) (by decide)
      obtain ⟨x, x1, x2, x3⟩ := pf_plus (s := wF s g1) (f := 11) (o := 8) (by decide) (ok_eq e11 h11) a3
      have u11 : va_up g1 11 x 11 = x := va_up_self _ _ _
      obtain ⟨g', r1, r2, r3, r4⟩ := ih n (i + 1) (r + 1) (va_up g1 11 x) (by omega) (by omega) ((hp.qf hr a2).up hr (by decide)) (ok_eq u11 x2) (by omega)
      have x3' : fv x = av_plus (fv (g 11)) (dSq s j i) := by
        rw [x3]
        show av_plus (fv (g1 11)) (fv (g1 8)) = _
        rw [e11, a4]
      have ed : dvA s j i (d + 1) (fv (g 11)) r = dvA s j (i + 1) d (av_plus (fv (g 11)) (dSq s j i)) (r + 1) := if_pos c
      refine ⟨g', ?_, r2, r3, ?_⟩
      · rw [if_pos c, if_neg pf_one0, a1, ct_ob_s, x1, ct_ob_s, wF_put, pi_succ]
        exact r1
      · rw [r4, u11, x3', ed]
    · have ed : dvA s j i (d + 1) (fv (g 11)) r = dvA s j (i + 1) d (fv (g 11)) r := if_neg c
      obtain ⟨g', r1, r2, r3, r4⟩ := ih n (i + 1) r g (by omega) (by omega) hp h11 (by omega)
      refine ⟨g', ?_, r2, r3, ?_⟩
      · rw [if_neg c, if_pos rfl]
        exact r1
      · rw [r4, ed]
