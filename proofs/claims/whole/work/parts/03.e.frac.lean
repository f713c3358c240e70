/-! the divisors, class and reference -/
theorem pf_eq0 (x : Int64) : lg_cmp x 0 = 0 ↔ x.toInt = 0 := (lg_cmp_eq x 0).trans pa_eq0
theorem pf_gz {x : Int64} (h : x.toInt ≠ 0) : ct_gzL x = true := decide_eq_true (fun e => h (pa_eq0.mp e))
theorem pf_of {n : Int} (h1 : -9223372036854775808 ≤ n) (h2 : n < 9223372036854775808) : (Int64.ofInt n).toInt = n := Int64.toInt_ofInt_of_le (by simpa using h1) (by simpa using h2)
/-- the greatest common divisor as an Int64 -/
def pf_g (a b : Int) : Int64 := Int64.ofInt (Int.gcd a b : Int)
theorem pf_gcd_le {a b : Int} (hb : b ≠ 0) : Int.gcd a b ≤ b.natAbs := Int.gcd_le_natAbs_right a hb
theorem pf_g_int {a b : Int} (ha : a.natAbs < 9223372036854775808) (hb : b.natAbs < 9223372036854775808) : (pf_g a b).toInt = Int.gcd a b := by
  unfold pf_g
  have h : Int.gcd a b < 9223372036854775808 := by
    by_cases h0 : b = 0
    · subst h0; simpa using ha
    · exact Nat.lt_of_le_of_lt (pf_gcd_le h0) hb
  exact pf_of (by omega) (by omega)
/-- the class's loop: k pairs of turns are left -/
theorem pf_div_loop (a1 a2 : Int64) : ∀ (k n : Nat) (p q : Int64) (v8 : Int32), 0 ≤ p.toInt → 0 ≤ q.toInt → q.toInt < 2 ^ k → 0 ≤ v8.toInt → v8.toInt + 2 * k ≤ 128 → 2 * k < n → bk_Fr_divisor_15 a1 a2 n p q v8 = some (ct_mxL (pf_g p.toInt q.toInt) 1) := by
  have hend : ∀ (n : Nat) (p q : Int64) (v8 : Int32), 0 ≤ p.toInt → q.toInt = 0 → 0 < n → bk_Fr_divisor_15 a1 a2 n p q v8 = some (ct_mxL (pf_g p.toInt q.toInt) 1) := by
    intro n p q v8 hp hq hn
    obtain ⟨n, rfl⟩ : ∃ z, n = z + 1 := ⟨n - 1, by omega⟩
    show bk_Fr_divisor_15_o a1 a2 (bk_Fr_divisor_15 a1 a2 n) p q v8 = _
    have e : pf_g p.toInt q.toInt = p := by
      unfold pf_g
      rw [hq, Int.gcd_zero]
      rw [Int.natAbs_of_nonneg hp, Int64.ofInt_toInt]
    unfold bk_Fr_divisor_15_o
    rw [if_pos ((pf_eq0 q).mpr hq), e]
    split <;> rfl
  intro k
  induction k with
  | zero =>
    intro n p q v8 hp hq h _ _ hn
    exact hend n p q v8 hp (by have : (2 : Int) ^ 0 = 1 := rfl; omega) (by omega)
  | succ k ih =>
    intro n p q v8 hp hq h hv1 hv2 hn
    by_cases hq0 : q.toInt = 0
    · exact hend n p q v8 hp hq0 (by omega)
    · obtain ⟨n, rfl⟩ : ∃ z, n = z + 2 := ⟨n - 2, by omega⟩
      have hc : ¬ (128 : Int32) ≤ v8 := fun z => by
        have z := Int32.le_iff_toInt_le.mp z
        have e : (128 : Int32).toInt = 128 := rfl
        omega
      have hr : (p - p / q * q).toInt = p.toInt % q.toInt := pa_rem hp (by omega)
      have hr1 := Int.emod_nonneg p.toInt hq0
      have hr2 := Int.emod_lt_of_pos p.toInt (show 0 < q.toInt by omega)
      have eg : pf_g p.toInt q.toInt = pf_g q.toInt (p - p / q * q).toInt := by
        unfold pf_g
        rw [hr, Int.gcd_comm p.toInt]
        congr 2
        rw [Int.emod_def, Int.gcd_sub_mul_left_right]
      show bk_Fr_divisor_15_o a1 a2 (bk_Fr_divisor_15 a1 a2 (n + 1)) p q v8 = _
      unfold bk_Fr_divisor_15_o
      rw [if_neg hc, if_neg (fun z => hq0 ((pf_eq0 q).mp z)), pf_gz hq0, ct_gd_t, ct_nm_eq, eg]
      generalize hrr : p - p / q * q = r at *
      by_cases hr0 : r.toInt = 0
      · exact hend (n + 1) q r (v8 + 1) (by omega) hr0 (by omega)
      · have hv3 : (v8 + 1).toInt = v8.toInt + 1 := by
          have h1 := pa_hi32 v8
          rw [Int32.toInt_add]
          exact Int.bmod_eq_of_le (by simp; omega) (by simp; omega)
        have hc2 : ¬ (128 : Int32) ≤ v8 + 1 := fun z => by
          have z := Int32.le_iff_toInt_le.mp z
          have e : (128 : Int32).toInt = 128 := rfl
          omega
        have hs : (q - q / r * r).toInt = q.toInt % r.toInt := pa_rem (by omega) (by omega)
        have hs1 := Int.emod_nonneg q.toInt hr0
        have hs2 := Int.emod_lt_of_pos q.toInt (show 0 < r.toInt by omega)
        have eg2 : pf_g q.toInt r.toInt = pf_g r.toInt (q - q / r * r).toInt := by
          unfold pf_g
          rw [hs, Int.gcd_comm q.toInt]
          congr 2
          rw [Int.emod_def, Int.gcd_sub_mul_left_right]
        have hhalf : 2 * (q.toInt % r.toInt) < q.toInt := by
          have h1 := pa_half (q := q.toInt.toNat) (r := r.toInt.toNat) (by omega) (by omega)
          have h2 : ((q.toInt.toNat % r.toInt.toNat : Nat) : Int) = q.toInt % r.toInt := by
            rw [Int.natCast_emod, Int.toNat_of_nonneg (by omega), Int.toNat_of_nonneg (by omega)]
          omega
        show bk_Fr_divisor_15_o a1 a2 (bk_Fr_divisor_15 a1 a2 n) q r (v8 + 1) = _
        unfold bk_Fr_divisor_15_o
        rw [if_neg hc2, if_neg (fun z => hr0 ((pf_eq0 r).mp z)), pf_gz hr0, ct_gd_t, ct_nm_eq, eg2]
        refine ih n r _ _ (by omega) (by omega) ?_ ?_ ?_ (by omega)
        · rw [hs]
          have : (2 : Int) ^ (k + 1) = 2 ^ k * 2 := Int.pow_succ 2 k
          omega
        · have h1 := pa_hi32 v8
          have : (v8 + 1 + 1).toInt = v8.toInt + 2 := by
            have e1 : (1 : Int32).toInt = 1 := rfl
            rw [Int32.toInt_add, hv3, e1, pa_bm32 (by omega) (by omega)]
            omega
          omega
        · have h1 := pa_hi32 v8
          have : (v8 + 1 + 1).toInt = v8.toInt + 2 := by
            have e1 : (1 : Int32).toInt = 1 := rfl
            rw [Int32.toInt_add, hv3, e1, pa_bm32 (by omega) (by omega)]
            omega
          omega
theorem pf_divisor {x y : Int64} (hx : x.toInt ≠ -9223372036854775808) (hy : y.toInt ≠ -9223372036854775808) (h0 : x.toInt ≠ 0 ∨ y.toInt ≠ 0) : fn_Fr_divisor x y = some (pf_g x.toInt y.toInt) := by
  have h1 := pa_lo x
  have h2 := pa_hi x
  have h3 := pa_lo y
  have h4 := pa_hi y
  unfold fn_Fr_divisor
  rw [ct_nm_eq, ct_nm_eq, pf_div_loop x y 63 200 _ _ _ (by rw [pa_abs hx]; omega) (by rw [pa_abs hy]; omega) (by rw [pa_abs hy]; have : (2 : Int) ^ 63 = 9223372036854775808 := rfl; omega) (by decide) (by decide) (by decide)]
  have e : pf_g (ct_abL x).toInt (ct_abL y).toInt = pf_g x.toInt y.toInt := by
    unfold pf_g
    rw [pa_abs hx, pa_abs hy]
    rfl
  rw [e]
  congr 1
  unfold ct_mxL
  have hg : (pf_g x.toInt y.toInt).toInt = Int.gcd x.toInt y.toInt := pf_g_int (by omega) (by omega)
  have hp : 0 < Int.gcd x.toInt y.toInt := Int.gcd_pos_iff.mpr h0
  by_cases c : (1 : Int64) < pf_g x.toInt y.toInt
  · rw [if_pos c]
  · rw [if_neg c]
    have c : ¬ (1 : Int64).toInt < (pf_g x.toInt y.toInt).toInt := fun z => c (Int64.lt_iff_toInt_lt.mpr z)
    have e1 : (1 : Int64).toInt = 1 := rfl
    exact Int64.toInt.inj (by rw [hg]; omega)
/-- the reference's loop -/
theorem pf_mdiv_loop (a1 a2 : Int64) : ∀ (k n : Nat) (p q : Int64), 0 ≤ p.toInt → 0 ≤ q.toInt → q.toInt < 2 ^ k → 2 * k < n → bk_Mo_divisor_6 a1 a2 n p q = some (pf_g p.toInt q.toInt) := by
  have hend : ∀ (n : Nat) (p q : Int64), 0 ≤ p.toInt → q.toInt = 0 → 0 < n → bk_Mo_divisor_6 a1 a2 n p q = some (pf_g p.toInt q.toInt) := by
    intro n p q hp hq hn
    obtain ⟨n, rfl⟩ : ∃ z, n = z + 1 := ⟨n - 1, by omega⟩
    show bk_Mo_divisor_6_o a1 a2 (bk_Mo_divisor_6 a1 a2 n) p q = _
    have e : pf_g p.toInt q.toInt = p := by
      unfold pf_g
      rw [hq, Int.gcd_zero]
      rw [Int.natAbs_of_nonneg hp, Int64.ofInt_toInt]
    unfold bk_Mo_divisor_6_o
    rw [if_pos ((pf_eq0 q).mpr hq), e]
  intro k
  induction k with
  | zero =>
    intro n p q hp hq h hn
    exact hend n p q hp (by have : (2 : Int) ^ 0 = 1 := rfl; omega) (by omega)
  | succ k ih =>
    intro n p q hp hq h hn
    by_cases hq0 : q.toInt = 0
    · exact hend n p q hp hq0 (by omega)
    · obtain ⟨n, rfl⟩ : ∃ z, n = z + 2 := ⟨n - 2, by omega⟩
      have hr : (p - p / q * q).toInt = p.toInt % q.toInt := pa_rem hp (by omega)
      have hr1 := Int.emod_nonneg p.toInt hq0
      have hr2 := Int.emod_lt_of_pos p.toInt (show 0 < q.toInt by omega)
      have eg : pf_g p.toInt q.toInt = pf_g q.toInt (p - p / q * q).toInt := by
        unfold pf_g
        rw [hr, Int.gcd_comm p.toInt]
        congr 2
        rw [Int.emod_def, Int.gcd_sub_mul_left_right]
      show bk_Mo_divisor_6_o a1 a2 (bk_Mo_divisor_6 a1 a2 (n + 1)) p q = _
      unfold bk_Mo_divisor_6_o
      rw [if_neg (fun z => hq0 ((pf_eq0 q).mp z)), pf_gz hq0, ct_gd_t, ct_nm_eq, eg]
      generalize hrr : p - p / q * q = r at *
      by_cases hr0 : r.toInt = 0
      · exact hend (n + 1) q r (by omega) hr0 (by omega)
      · have hs : (q - q / r * r).toInt = q.toInt % r.toInt := pa_rem (by omega) (by omega)
        have hs1 := Int.emod_nonneg q.toInt hr0
        have hs2 := Int.emod_lt_of_pos q.toInt (show 0 < r.toInt by omega)
        have eg2 : pf_g q.toInt r.toInt = pf_g r.toInt (q - q / r * r).toInt := by
          unfold pf_g
          rw [hs, Int.gcd_comm q.toInt]
          congr 2
          rw [Int.emod_def, Int.gcd_sub_mul_left_right]
        have hhalf : 2 * (q.toInt % r.toInt) < q.toInt := by
          have h1 := pa_half (q := q.toInt.toNat) (r := r.toInt.toNat) (by omega) (by omega)
          have h2 : ((q.toInt.toNat % r.toInt.toNat : Nat) : Int) = q.toInt % r.toInt := by
            rw [Int.natCast_emod, Int.toNat_of_nonneg (by omega), Int.toNat_of_nonneg (by omega)]
          omega
        show bk_Mo_divisor_6_o a1 a2 (bk_Mo_divisor_6 a1 a2 n) q r = _
        unfold bk_Mo_divisor_6_o
        rw [if_neg (fun z => hr0 ((pf_eq0 r).mp z)), pf_gz hr0, ct_gd_t, ct_nm_eq, eg2]
        refine ih n r _ (by omega) (by omega) ?_ (by omega)
        rw [hs]
        have : (2 : Int) ^ (k + 1) = 2 ^ k * 2 := Int.pow_succ 2 k
        omega
theorem pf_mdivisor {x y : Int64} (hx : 0 ≤ x.toInt) (hy : 0 ≤ y.toInt) : fn_Mo_divisor x y = some (pf_g x.toInt y.toInt) := by
  have h4 := pa_hi y
  unfold fn_Mo_divisor
  exact pf_mdiv_loop x y 63 200 x y hx hy (by have : (2 : Int) ^ 63 = 9223372036854775808 := rfl; omega) (by decide)
theorem pf_size {x : Int64} (hx : x.toInt ≠ -9223372036854775808) : ∃ z, fn_Mo_size x = some z ∧ z.toInt = x.toInt.natAbs := by
  unfold fn_Mo_size
  by_cases c : 0 ≤ lg_cmp x 0
  · rw [if_pos c]
    have c := Int64.le_iff_toInt_le.mp ((lg_cmp_ge x 0).mp c)
    have e : (0 : Int64).toInt = 0 := rfl
    exact ⟨x, rfl, by omega⟩
  · rw [if_neg c]
    have c : ¬ (0 : Int64).toInt ≤ x.toInt := fun z => c ((lg_cmp_ge x 0).mpr (Int64.le_iff_toInt_le.mpr z))
    have e : (0 : Int64).toInt = 0 := rfl
    exact ⟨-x, rfl, by rw [pa_neg hx]; omega⟩
/-! what fits -/
def pf_b (c : Prop) [Decidable c] : Int32 := if c then 1 else 0
theorem pf_quot {y : Int64} (hy : 0 < y.toInt) : ((4611686018427387904 : Int64) / y).toInt = 4611686018427387904 / y.toInt := by
  have e : (4611686018427387904 : Int64).toInt = 4611686018427387904 := rfl
  rw [pa_div (by rw [e]; decide), e, Int.tdiv_eq_ediv_of_nonneg (by decide)]
theorem pf_fits {x y : Int64} (hx : x.toInt ≠ -9223372036854775808) (hy : y.toInt ≠ -9223372036854775808) : fn_Fr_fits x y = some (pf_b ((x.toInt * y.toInt).natAbs ≤ 4611686018427387904)) := by
  unfold fn_Fr_fits pf_b
  by_cases h0 : y.toInt = 0
  · rw [if_pos ((pf_eq0 y).mpr h0), h0, Int.mul_zero]
    rfl
  · have ha := pa_abs hy
    have hb := pa_abs hx
    have hap : 0 < (ct_abL y).toInt := by omega
    rw [if_neg (fun z => h0 ((pf_eq0 y).mp z)), pf_gz (by omega), ct_gd_t]
    have e : (0 < lg_cmp (ct_abL x) (4611686018427387904 / ct_abL y)) ↔ ¬ (x.toInt * y.toInt).natAbs ≤ 4611686018427387904 := by
      rw [lg_cmp_gt, Int64.lt_iff_toInt_lt, pf_quot hap, ha, hb, Int.natAbs_mul, ← pa_fit (by omega), Nat.not_le, ← Int.ofNat_lt, Int.natCast_ediv]
      exact Iff.rfl
    by_cases c : (x.toInt * y.toInt).natAbs ≤ 4611686018427387904
    · rw [if_neg (fun z => e.mp z c), if_pos c]
    · rw [if_pos (e.mpr c), if_neg c]
theorem pf_short {x y : Int64} (hx : x.toInt ≠ -9223372036854775808) (hy : y.toInt ≠ -9223372036854775808) : fn_Mo_isShort x y = some (pf_b ((x.toInt * y.toInt).natAbs ≤ 4611686018427387904)) := by
  unfold fn_Mo_isShort pf_b
  by_cases h1 : x.toInt = 0
  · rw [if_pos ((pf_eq0 x).mpr h1), h1, Int.zero_mul]
    rfl
  rw [if_neg (fun z => h1 ((pf_eq0 x).mp z))]
  by_cases h0 : y.toInt = 0
  · rw [if_pos ((pf_eq0 y).mpr h0), h0, Int.mul_zero]
    rfl
  · obtain ⟨z1, e1, hb⟩ := pf_size hx
    obtain ⟨z2, e2, ha⟩ := pf_size hy
    have hap : 0 < z2.toInt := by omega
    rw [if_neg (fun z => h0 ((pf_eq0 y).mp z)), e1, ct_ob_s, e2, ct_ob_s, pf_gz (by omega), ct_gd_t]
    have e : (0 < lg_cmp z1 (4611686018427387904 / z2)) ↔ ¬ (x.toInt * y.toInt).natAbs ≤ 4611686018427387904 := by
      rw [lg_cmp_gt, Int64.lt_iff_toInt_lt, pf_quot hap, ha, hb, Int.natAbs_mul, ← pa_fit (by omega), Nat.not_le, ← Int.ofNat_lt, Int.natCast_ediv]
      exact Iff.rfl
    by_cases c : (x.toInt * y.toInt).natAbs ≤ 4611686018427387904
    · rw [if_neg (fun z => e.mp z c), if_pos c]
    · rw [if_pos (e.mpr c), if_neg c]
