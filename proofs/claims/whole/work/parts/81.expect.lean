/-! expect -/
def lnN (s : CS) : Nat := (cs_I s 1).toNatClampNeg
theorem lnN_eq {s : CS} (hr : iR s) : cs_I s 1 = Int32.ofNat (lnN s) ∧ lnN s < 2 := by
  have q := hr.2.1
  obtain ⟨k, e1, e2, e3⟩ := pi_ex (show 0 ≤ (cs_I s 1).toInt by omega)
  have e4 : lnN s = k := by unfold lnN; rw [e1, pi_cl e2]
  exact ⟨by rw [e4]; exact e1, by omega⟩
def psm (s : CS) (i : Nat) : Nat → Int32
  | 0 => 0
  | k + 1 => psm s i k + cs_P s (lnN s) (i * stp s + k)
theorem psm_bd {s : CS} {t : MS} (h : Inv s t) {i : Nat} : ∀ k, i * stp s + k ≤ 72 → 0 ≤ (psm s i k).toInt ∧ (psm s i k).toInt ≤ 9999 * k := by
  intro k
  induction k with
  | zero => intro _; exact ⟨Int.le_refl 0, Int.le_refl 0⟩
  | succ k ih =>
    intro hk
    obtain ⟨h1, h2⟩ := ih (by omega)
    obtain ⟨-, p1, p2⟩ := h.2.2.2.1 (lnN s) (i * stp s + k) (lnN_eq h.2.1).2 (by omega)
    have e : (psm s i (k + 1)).toInt = (psm s i k).toInt + (cs_P s (lnN s) (i * stp s + k)).toInt := by
      show (psm s i k + cs_P s (lnN s) (i * stp s + k)).toInt = _
      rw [Int32.toInt_add, pa_bm32 (by omega) (by omega)]
    omega
theorem psm_64 {s : CS} {t : MS} (h : Inv s t) {i k : Nat} (hk : i * stp s + k + 1 ≤ 72) : (psm s i k).toInt64 + (cs_P s (lnN s) (i * stp s + k)).toInt64 = (psm s i (k + 1)).toInt64 := by
  obtain ⟨h1, h2⟩ := psm_bd h (i := i) k (by omega)
  obtain ⟨-, p1, p2⟩ := h.2.2.2.1 (lnN s) (i * stp s + k) (lnN_eq h.2.1).2 (by omega)
  have e1 : (psm s i k).toInt64.toInt = (psm s i k).toInt := Int32.toInt_toInt64 _
  have e2 : (cs_P s (lnN s) (i * stp s + k)).toInt64.toInt = (cs_P s (lnN s) (i * stp s + k)).toInt := Int32.toInt_toInt64 _
  have e3 : (psm s i (k + 1)).toInt64.toInt = (psm s i (k + 1)).toInt := Int32.toInt_toInt64 _
  have e : (psm s i (k + 1)).toInt = (psm s i k).toInt + (cs_P s (lnN s) (i * stp s + k)).toInt := by
    show (psm s i k + cs_P s (lnN s) (i * stp s + k)).toInt = _
    rw [Int32.toInt_add, pa_bm32 (by omega) (by omega)]
  apply Int64.toInt.inj
  rw [pa_add (by omega) (by omega), e1, e2, e3, e]
theorem ex_row {s : CS} (hr : iR s) {i : Nat} (hi : i < 6) : i * stp s + stp s ≤ 72 := by
  obtain ⟨s1, s2, s3, s4⟩ := stp_eq hr
  have h8 : (i + 1) * stp s ≤ 6 * 12 := Nat.mul_le_mul (by omega) s3
  rw [Nat.add_mul, Nat.one_mul] at h8
  omega
theorem ex_cls {s : CS} {t : MS} (h : Inv s t) {g : Nat → Int64 × Int64 × Int32} {i : Nat} (hi : i < 6) {a3 : Int32} : ∀ (d n k : Nat), k + d = stp s → d < n → bk_Te_sumPremiums_12 (cs_I s 1) (cs_I s 2) a3 n (wF s g) (Int32.ofNat (i * stp s)) (psm s i k) (Int32.ofNat (i * stp s + k)) = some (psm s i (stp s)) := by
  obtain ⟨s1, s2, s3, s4⟩ := stp_eq h.2.1
  obtain ⟨n1, n2⟩ := lnN_eq h.2.1
  have hB := ex_row h.2.1 hi
  intro d
  induction d with
  | zero =>
    intro n k hk hn
    obtain ⟨n, rfl⟩ : ∃ z, n = z + 1 := ⟨n - 1, by omega⟩
    show bk_Te_sumPremiums_12_o _ _ _ (bk_Te_sumPremiums_12 _ _ _ n) (wF s g) _ _ _ = _
    unfold bk_Te_sumPremiums_12_o
    rw [s1, pi_add, if_pos ((pi_le (by omega) (by omega)).mpr (by omega)), show k = stp s by omega]
  | succ d ih =>
    intro n k hk hn
    obtain ⟨n, rfl⟩ : ∃ z, n = z + 1 := ⟨n - 1, by omega⟩
    have ih' := ih n (k + 1) (by omega) (by omega)
    show bk_Te_sumPremiums_12_o _ _ _ (bk_Te_sumPremiums_12 _ _ _ n) (wF s g) _ _ _ = _
    unfold bk_Te_sumPremiums_12_o
    have c1 : ¬ Int32.ofNat (i * stp s) + cs_I s 2 ≤ Int32.ofNat (i * stp s + k) := fun q => by
      rw [s1, pi_add] at q
      have := (pi_le (by omega) (by omega)).mp q
      omega
    have c2 : ¬ (72 : Int32) ≤ Int32.ofNat (i * stp s + k) := fun q => by
      have := (pi_le (a := 72) (by omega) (by omega)).mp q
      omega
    have g1 : ct_inR (cs_I s 1) 2 = true := by rw [n1]; exact pi_inR n2 (by omega)
    have ep : psm s i k + cs_P (wF s g) (cs_I s 1).toNatClampNeg (i * stp s + k) = psm s i (k + 1) := rfl
    rw [if_neg c1, if_neg c2, g1, ct_gd_t, pi_inR (show i * stp s + k < 72 by omega) (by omega), ct_gd_t, ct_nm_eq, pi_cl (by omega), ep, pi_succ]
    exact ih'
theorem ex_mod {s : CS} {t : MS} (h : Inv s t) {i : Nat} (hi : i < 6) : ∀ (d n k : Nat), k + d = stp s → d < n → bk_Mo_expect_10 (Int32.ofNat i) n t (psm s i k).toInt64 (Int32.ofNat (i * stp s + k)) = bk_Mo_expect_58 (Int32.ofNat i) t (psm s i (stp s)).toInt64 := by
  obtain ⟨s1, s2, s3, s4⟩ := stp_eq h.2.1
  obtain ⟨n1, n2⟩ := lnN_eq h.2.1
  have hB := ex_row h.2.1 hi
  have t3 : ms_I t 3 = Int32.ofNat (stp s) := h.1.2.2.1.symm.trans s1
  have t2 : ms_I t 2 = Int32.ofNat (lnN s) := h.1.2.1.symm.trans n1
  have e1 : Int32.ofNat i * ms_I t 3 + ms_I t 3 = Int32.ofNat (i * stp s + stp s) := by rw [t3, ← Int32.ofNat_mul, pi_add]
  intro d
  induction d with
  | zero =>
    intro n k hk hn
    obtain ⟨n, rfl⟩ : ∃ z, n = z + 1 := ⟨n - 1, by omega⟩
    show bk_Mo_expect_10_o _ (bk_Mo_expect_10 _ n) t _ _ = _
    unfold bk_Mo_expect_10_o
    rw [e1, if_pos ((pi_le (by omega) (by omega)).mpr (by omega)), show k = stp s by omega]
  | succ d ih =>
    intro n k hk hn
    obtain ⟨n, rfl⟩ : ∃ z, n = z + 1 := ⟨n - 1, by omega⟩
    have ih' := ih n (k + 1) (by omega) (by omega)
    show bk_Mo_expect_10_o _ (bk_Mo_expect_10 _ n) t _ _ = _
    unfold bk_Mo_expect_10_o
    have c1 : ¬ Int32.ofNat (i * stp s + stp s) ≤ Int32.ofNat (i * stp s + k) := fun q => by
      have := (pi_le (by omega) (by omega)).mp q
      omega
    have c2 : ¬ (72 : Int32) ≤ Int32.ofNat (i * stp s + k) := fun q => by
      have := (pi_le (a := 72) (by omega) (by omega)).mp q
      omega
    have e72 : (72 : Int32) * ms_I t 2 + Int32.ofNat (i * stp s + k) = Int32.ofNat (72 * lnN s + (i * stp s + k)) := by
      rw [t2, Int32.ofNat_add (72 * lnN s), Int32.ofNat_mul]
      rfl
    have hp := (h.2.2.2.1 (lnN s) (i * stp s + k) n2 (by omega)).1
    rw [e1, if_neg c1, if_neg c2, e72, pi_inR (show 72 * lnN s + (i * stp s + k) < 144 by omega) (by omega), ct_gd_t, ct_nm_eq, pi_cl (by omega), ← hp, psm_64 h (by omega), pi_succ]
    exact ih'
def exA (s : CS) (i : Nat) : AV := av_times (0, (psm s i (stp s)).toInt, 1) (fv (cs_F s (lnN s)))
theorem exA_fine {s : CS} {t : MS} (h : Inv s t) {i : Nat} (hi : i < 6) : (exA s i).1 = 0 ∧ sp_ok (exA s i).2.1 (exA s i).2.2 := by
  obtain ⟨s1, s2, s3, s4⟩ := stp_eq h.2.1
  obtain ⟨n1, n2⟩ := lnN_eq h.2.1
  obtain ⟨b1, b2⟩ := psm_bd h (i := i) (stp s) (ex_row h.2.1 hi)
  obtain ⟨f1, ⟨f2, f3⟩, f4, f5⟩ := h.2.2.2.2.1 (lnN s) (by omega)
  unfold exA
  rw [f1, fv_0]
  have b3 : (psm s i (stp s)).toInt.natAbs ≤ 119988 := by omega
  generalize (psm s i (stp s)).toInt = a at *
  generalize (ms_B t 0 (lnN s)).toInt = c at *
  generalize (ms_B t 1 (lnN s)).toInt = d at *
  have k1 : (a / (Int.gcd a d : Int) * (c / (Int.gcd c 1 : Int))).natAbs ≤ 119988 * 9999 := by
    rw [Int.natAbs_mul]
    exact Nat.mul_le_mul (Nat.le_trans (Int.natAbs_ediv_le_natAbs _ _) b3) (Nat.le_trans (Int.natAbs_ediv_le_natAbs _ _) (by omega))
  have k2 : ((1 : Int) / (Int.gcd c 1 : Int) * (d / (Int.gcd a d : Int))).natAbs ≤ 1 * 9999 := by
    rw [Int.natAbs_mul]
    exact Nat.mul_le_mul (Int.natAbs_ediv_le_natAbs _ _) (Nat.le_trans (Int.natAbs_ediv_le_natAbs _ _) (by omega))
  have e : sp_times a 1 c d = some (a / (Int.gcd a d : Int) * (c / (Int.gcd c 1 : Int)), (1 : Int) / (Int.gcd c 1 : Int) * (d / (Int.gcd a d : Int))) := by
    unfold sp_times
    rw [if_pos ⟨by omega, by omega⟩]
  have o := sp_times_ok (by decide) (by omega) e
  have e2 : av_times (0, a, 1) (0, c, d) = (0, a / (Int.gcd a d : Int) * (c / (Int.gcd c 1 : Int)), (1 : Int) / (Int.gcd c 1 : Int) * (d / (Int.gcd a d : Int))) := by
    unfold av_times av_op
    rw [if_pos ⟨rfl, rfl⟩, e]
  rw [e2]
  exact ⟨rfl, o⟩
theorem ex_c {s : CS} {t : MS} (h : Inv s t) {g : Nat → Int64 × Int64 × Int32} (hg : ∀ k, k < 3 → g k = cs_F s k) {i : Nat} (hi : i < 6) : ∃ x, fn_Re_expect (wF s g) (Int32.ofNat i) = some (wF s (va_up g 10 x)) ∧ fr_ok x ∧ fv x = exA s i := by
  obtain ⟨s1, s2, s3, s4⟩ := stp_eq h.2.1
  obtain ⟨n1, n2⟩ := lnN_eq h.2.1
  obtain ⟨b1, b2⟩ := psm_bd h (i := i) (stp s) (ex_row h.2.1 hi)
  obtain ⟨f1, ⟨f2, f3⟩, f4, f5⟩ := h.2.2.2.2.1 (lnN s) (by omega)
  have hl := ex_cls h (g := g) hi (a3 := Int32.ofNat i) (stp s) 200 0 (by omega) (by omega)
  have hl' : bk_Te_sumPremiums_12 (cs_I s 1) (cs_I s 2) (Int32.ofNat i) 200 (wF s g) (Int32.ofNat (i * stp s)) 0 (Int32.ofNat (i * stp s)) = some (psm s i (stp s)) := hl
  have e1 : Int32.ofNat i * cs_I s 2 = Int32.ofNat (i * stp s) := by rw [s1, ← Int32.ofNat_mul]
  have hs : fn_Te_sumPremiums (wF s g) (cs_I s 1) (cs_I s 2) (Int32.ofNat i) = some (psm s i (stp s)) := by
    unfold fn_Te_sumPremiums
    rw [ct_nm_eq, e1, hl']
  have e64 : (psm s i (stp s)).toInt64.toInt = (psm s i (stp s)).toInt := Int32.toInt_toInt64 _
  have ok1 : fr_ok ((psm s i (stp s)).toInt64, 1, 0) := Or.inl ⟨rfl, by show (psm s i (stp s)).toInt64.toInt.natAbs ≤ _; rw [e64]; omega, sp_11.2.1, sp_11.2.2⟩
  have okL : fr_ok (g (lnN s)) := by
    rw [hg _ (by omega), f1]
    exact Or.inl ⟨rfl, by show (ms_B t 0 (lnN s)).toInt.natAbs ≤ _; omega, by show 0 < (ms_B t 1 (lnN s)).toInt; omega, by show (ms_B t 1 (lnN s)).toInt ≤ _; omega⟩
  have hro : fn_Te_ratioOf (wF s (va_up g 10 ((psm s i (stp s)).toInt64, 1, 0))) (cs_I s 1) = some (lnN s) := by
    unfold fn_Te_ratioOf
    have cc : lnN s = 0 ∨ lnN s = 1 := by omega
    rcases cc with c | c
    · have q : ¬ ¬ cs_I s 1 = 0 := fun q => q (by rw [n1, c]; rfl)
      rw [if_neg q, c]
    · have q : ¬ cs_I s 1 = 0 := fun q => by rw [n1, c] at q; exact absurd q (by decide)
      rw [if_pos q, c]
  have u1 : va_up g 10 ((psm s i (stp s)).toInt64, 1, 0) 10 = ((psm s i (stp s)).toInt64, 1, 0) := va_up_self _ _ _
  have u2 : va_up g 10 ((psm s i (stp s)).toInt64, 1, 0) (lnN s) = g (lnN s) := va_up_ne _ _ (by omega)
  obtain ⟨x, x1, x2, x3⟩ := pf_times (s := wF s (va_up g 10 ((psm s i (stp s)).toInt64, 1, 0))) (f := 10) (o := lnN s) (by have z : fr_ok (va_up g 10 ((psm s i (stp s)).toInt64, 1, 0) 10) := (by rw [u1]; exact ok1); exact z) (by have z : fr_ok (va_up g 10 ((psm s i (stp s)).toInt64, 1, 0) (lnN s)) := (by rw [u2]; exact okL); exact z)
  refine ⟨x, ?_, x2, ?_⟩
  · unfold fn_Re_expect
    show ct_ob (fn_Te_sumPremiums (wF s g) (cs_I s 1) (cs_I s 2) (Int32.ofNat i)) _ = _
    rw [hs, ct_ob_s, pf_whole, ct_ob_s, wF_put]
    show ct_ob (fn_Te_ratioOf (wF s (va_up g 10 ((psm s i (stp s)).toInt64, 1, 0))) (cs_I s 1)) _ = _
    rw [hro, ct_ob_s, x1, ct_ob_s, wF_put, va_up_up]
  · rw [x3]
    show av_times (fv (va_up g 10 ((psm s i (stp s)).toInt64, 1, 0) 10)) (fv (va_up g 10 ((psm s i (stp s)).toInt64, 1, 0) (lnN s))) = _
    rw [u1, u2, hg _ (by omega), fv_0, e64]
    rfl
theorem ex_m {s : CS} {t : MS} (h : Inv s t) (h8 : ms_I t 8 = 0) {i : Nat} (hi : i < 6) : ∃ t', fn_Mo_expect t (Int32.ofNat i) = some t' ∧ me t t' ∧ ms_I t' 8 = 0 ∧ mo_ok t' ∧ mv t' = exA s i ∧ (0, (ms_L t' 2).toInt, (ms_L t' 3).toInt) = exA s i := by
  obtain ⟨s1, s2, s3, s4⟩ := stp_eq h.2.1
  obtain ⟨n1, n2⟩ := lnN_eq h.2.1
  obtain ⟨b1, b2⟩ := psm_bd h (i := i) (stp s) (ex_row h.2.1 hi)
  obtain ⟨f1, ⟨f2, f3⟩, f4, f5⟩ := h.2.2.2.2.1 (lnN s) (by omega)
  obtain ⟨x1, x2⟩ := exA_fine h hi
  have hl := ex_mod h hi (stp s) 200 0 (by omega) (by omega)
  have hl' : bk_Mo_expect_10 (Int32.ofNat i) 200 t 0 (Int32.ofNat (i * stp s)) = bk_Mo_expect_58 (Int32.ofNat i) t (psm s i (stp s)).toInt64 := hl
  have t3 : ms_I t 3 = Int32.ofNat (stp s) := h.1.2.2.1.symm.trans s1
  have t2 : ms_I t 2 = Int32.ofNat (lnN s) := h.1.2.1.symm.trans n1
  have e1 : Int32.ofNat i * ms_I t 3 = Int32.ofNat (i * stp s) := by rw [t3, ← Int32.ofNat_mul]
  have e64 : (psm s i (stp s)).toInt64.toInt = (psm s i (stp s)).toInt := Int32.toInt_toInt64 _
  obtain ⟨t1, p1, p2, p3, p4⟩ := pm_times (s := ms_L' (ms_L' t 0 (psm s i (stp s)).toInt64) 1 1) (c := ms_B t 0 (lnN s)) (d := ms_B t 1 (lnN s)) (Or.inl ⟨h8, by show (psm s i (stp s)).toInt64.toInt.natAbs ≤ _; rw [e64]; omega, by show 0 < (1 : Int64).toInt; decide, by show (1 : Int64).toInt ≤ _; decide⟩) ⟨by omega, by omega, by omega⟩
  have em : mv (ms_L' (ms_L' t 0 (psm s i (stp s)).toInt64) 1 1) = (0, (psm s i (stp s)).toInt, 1) := by
    rw [← e64]
    exact if_pos h8
  have ee : mv t1 = exA s i := by
    rw [p3, em]
    unfold exA
    rw [f1, fv_0]
  have t18 : ms_I t1 8 = 0 := mv_0 (by rw [ee]; exact x1)
  have mt1 : mv t1 = (0, (ms_L t1 0).toInt, (ms_L t1 1).toInt) := by unfold mv; rw [if_pos t18]
  refine ⟨ms_L' (ms_L' t1 2 (ms_L t1 0)) 3 (ms_L t1 1), ?_, ((me.L.tr me.L).tr p4.me).tr (me.L.tr me.L), t18, p2, ee, mt1.symm.trans ee⟩
  unfold fn_Mo_expect
  rw [ct_nm_eq, e1, hl']
  unfold bk_Mo_expect_58
  show ct_gd (ct_inR (ms_I t 2) 3) (ct_gd (ct_inR (ms_I t 2) 3) (ct_ob (fn_Mo_times (ms_L' (ms_L' t 0 (psm s i (stp s)).toInt64) 1 1) (ms_B t 0 (ms_I t 2).toNatClampNeg) (ms_B t 1 (ms_I t 2).toNatClampNeg)) _)) = _
  rw [t2, pi_inR (show lnN s < 3 by omega) (by omega), ct_gd_t, ct_gd_t, pi_cl (by omega), p1, ct_ob_s, ct_nm_eq, ct_nm_eq]
  rfl
