/-! whole numbers behind Int64; greatest common divisors; the two ways of reckoning in fractions as one (over Int) -/
theorem pa_bm {n : Int} (h1 : -9223372036854775808 ≤ n) (h2 : n < 9223372036854775808) : n.bmod (2 ^ 64) = n :=
  Int.bmod_eq_of_le (by simpa using h1) (by simpa using h2)
theorem pa_lo (x : Int64) : -9223372036854775808 ≤ x.toInt := by have h := x.le_toInt; simpa using h
theorem pa_hi (x : Int64) : x.toInt < 9223372036854775808 := by have h := x.toInt_lt; simpa using h
theorem pa_lo32 (x : Int32) : -2147483648 ≤ x.toInt := by have h := x.le_toInt; simpa using h
theorem pa_hi32 (x : Int32) : x.toInt < 2147483648 := by have h := x.toInt_lt; simpa using h
theorem pa_bm32 {n : Int} (h1 : -2147483648 ≤ n) (h2 : n < 2147483648) : n.bmod (2 ^ 32) = n :=
  Int.bmod_eq_of_le (by simpa using h1) (by simpa using h2)
theorem pa_mul {x y : Int64} (h1 : -9223372036854775808 ≤ x.toInt * y.toInt) (h2 : x.toInt * y.toInt < 9223372036854775808) : (x * y).toInt = x.toInt * y.toInt := by rw [Int64.toInt_mul, pa_bm h1 h2]
theorem pa_add {x y : Int64} (h1 : -9223372036854775808 ≤ x.toInt + y.toInt) (h2 : x.toInt + y.toInt < 9223372036854775808) : (x + y).toInt = x.toInt + y.toInt := by rw [Int64.toInt_add, pa_bm h1 h2]
theorem pa_sub {x y : Int64} (h1 : -9223372036854775808 ≤ x.toInt - y.toInt) (h2 : x.toInt - y.toInt < 9223372036854775808) : (x - y).toInt = x.toInt - y.toInt := by rw [Int64.toInt_sub, pa_bm h1 h2]
theorem pa_neg {x : Int64} (h : x.toInt ≠ -9223372036854775808) : (-x).toInt = -x.toInt := by
  have h1 := pa_lo x
  have h2 := pa_hi x
  rw [Int64.toInt_neg, pa_bm (by omega) (by omega)]
theorem pa_div {x y : Int64} (h : x.toInt ≠ -9223372036854775808) : (x / y).toInt = x.toInt.tdiv y.toInt :=
  Int64.toInt_div_of_ne_left x y (fun e => h (by rw [e]; rfl))
theorem pa_ediv {x y : Int64} (h : x.toInt ≠ -9223372036854775808) (hd : y.toInt ∣ x.toInt) : (x / y).toInt = x.toInt / y.toInt := by
  rw [pa_div h, Int.tdiv_eq_ediv_of_dvd hd]
theorem pa_eq0 {x : Int64} : x = 0 ↔ x.toInt = 0 := ⟨fun h => by rw [h]; rfl, fun h => Int64.toInt.inj (h.trans rfl)⟩
theorem pa_rem {x y : Int64} (hx : 0 ≤ x.toInt) (hy : 0 < y.toInt) : (x - x / y * y).toInt = x.toInt % y.toInt := by
  have h0 := pa_hi x
  have h1 : (x / y).toInt = x.toInt / y.toInt := by rw [pa_div (by omega), Int.tdiv_eq_ediv_of_nonneg hx]
  have h2 := Int.ediv_mul_add_emod x.toInt y.toInt
  have h3 := Int.emod_nonneg x.toInt (show y.toInt ≠ 0 by omega)
  have h4 : 0 ≤ x.toInt / y.toInt * y.toInt := Int.mul_nonneg (Int.ediv_nonneg hx (by omega)) (by omega)
  have h5 : (x / y * y).toInt = x.toInt / y.toInt * y.toInt := by rw [pa_mul (by rw [h1]; omega) (by rw [h1]; omega), h1]
  rw [pa_sub (by rw [h5]; omega) (by rw [h5]; omega), h5]
  omega
theorem pa_abs {x : Int64} (h : x.toInt ≠ -9223372036854775808) : (ct_abL x).toInt = x.toInt.natAbs := by
  unfold ct_abL
  split
  · rename_i q
    have q : (0 : Int64).toInt < x.toInt := Int64.lt_iff_toInt_lt.mp q
    have e : (0 : Int64).toInt = 0 := rfl
    omega
  · rename_i q
    have q : ¬ (0 : Int64).toInt < x.toInt := fun z => q (Int64.lt_iff_toInt_lt.mpr z)
    have e : (0 : Int64).toInt = 0 := rfl
    rw [pa_neg h]
    omega
/-! Euclid's turns -/
theorem pa_half {q r : Nat} (h0 : 0 < r) (h : r ≤ q) : 2 * (q % r) < q := by
  have h1 := Nat.mod_lt q h0
  have h2 := Nat.div_add_mod q r
  have h3 : 1 ≤ q / r := (Nat.le_div_iff_mul_le h0).mpr (by omega)
  have h4 : r * 1 ≤ r * (q / r) := Nat.mul_le_mul_left r h3
  omega
def pa_eu : Nat → Nat → Nat → Nat
  | 0, p, _ => p
  | n + 1, p, q => if q = 0 then p else pa_eu n q (p % q)
theorem pa_eu_gcd : ∀ (k p q : Nat), q < 2 ^ k → pa_eu (2 * k) p q = Nat.gcd p q := by
  intro k
  induction k with
  | zero =>
    intro p q h
    have h : q = 0 := by simpa using h
    rw [h, Nat.gcd_zero_right]
    rfl
  | succ k ih =>
    intro p q h
    rw [show 2 * (k + 1) = 2 * k + 1 + 1 by omega]
    unfold pa_eu
    by_cases hq : q = 0
    · rw [if_pos hq, hq, Nat.gcd_zero_right]
    · rw [if_neg hq]
      have e1 : Nat.gcd p q = Nat.gcd q (p % q) := by rw [Nat.gcd_comm p q, Nat.gcd_rec q p, Nat.gcd_comm]
      unfold pa_eu
      by_cases hr : p % q = 0
      · rw [if_pos hr, e1, hr, Nat.gcd_zero_right]
      · rw [if_neg hr]
        have e2 : Nat.gcd q (p % q) = Nat.gcd (p % q) (q % (p % q)) := by rw [Nat.gcd_comm q, Nat.gcd_rec (p % q) q, Nat.gcd_comm]
        have h1 := Nat.mod_lt p (Nat.pos_of_ne_zero hq)
        have h2 := pa_half (Nat.pos_of_ne_zero hr) (Nat.le_of_lt h1)
        rw [ih _ _ (by rw [Nat.pow_succ] at h; omega), e1, e2]
/-! times and plus over Int; L = 2 ^ 62 -/
def sp_ok (a b : Int) : Prop := a.natAbs ≤ 4611686018427387904 ∧ 0 < b ∧ b ≤ 4611686018427387904
def sp_times (a b c d : Int) : Option (Int × Int) :=
  if (a / (Int.gcd a d : Int) * (c / (Int.gcd c b : Int))).natAbs ≤ 4611686018427387904 ∧ b / (Int.gcd c b : Int) * (d / (Int.gcd a d : Int)) ≤ 4611686018427387904 then some (a / (Int.gcd a d : Int) * (c / (Int.gcd c b : Int)), b / (Int.gcd c b : Int) * (d / (Int.gcd a d : Int))) else none
def sp_plus (a b c d : Int) : Option (Int × Int) :=
  if b * (d / (Int.gcd b d : Int)) ≤ 4611686018427387904 ∧ (a * (d / (Int.gcd b d : Int))).natAbs ≤ 4611686018427387904 ∧ (c * (b / (Int.gcd b d : Int))).natAbs ≤ 4611686018427387904 ∧ (a * (d / (Int.gcd b d : Int)) + c * (b / (Int.gcd b d : Int))).natAbs ≤ 4611686018427387904 then
    some ((a * (d / (Int.gcd b d : Int)) + c * (b / (Int.gcd b d : Int))) / (Int.gcd (a * (d / (Int.gcd b d : Int)) + c * (b / (Int.gcd b d : Int))) (b * (d / (Int.gcd b d : Int))) : Int), b * (d / (Int.gcd b d : Int)) / (Int.gcd (a * (d / (Int.gcd b d : Int)) + c * (b / (Int.gcd b d : Int))) (b * (d / (Int.gcd b d : Int))) : Int)) else none
theorem sp_times_comm (a b c d : Int) : sp_times a b c d = sp_times c d a b := by
  unfold sp_times
  rw [Int.mul_comm (a / (Int.gcd a d : Int)), Int.mul_comm (b / (Int.gcd c b : Int))]
theorem sp_lcm (b d : Int) : b * (d / (Int.gcd b d : Int)) = d * (b / (Int.gcd b d : Int)) := by
  rw [← Int.mul_ediv_assoc b (Int.gcd_dvd_right b d), Int.mul_comm b d, Int.mul_ediv_assoc d (Int.gcd_dvd_left b d)]
theorem sp_plus_comm (a b c d : Int) : sp_plus a b c d = sp_plus c d a b := by
  unfold sp_plus
  rw [sp_lcm b d, Int.gcd_comm d b, Int.add_comm (a * (d / (Int.gcd b d : Int)))]
  have e : ∀ (P Q R S : Prop) [Decidable P] [Decidable Q] [Decidable R] [Decidable S] (x y : Option (Int × Int)), (if P ∧ Q ∧ R ∧ S then x else y) = (if P ∧ R ∧ Q ∧ S then x else y) := by
    intro P Q R S _ _ _ _ x y
    by_cases hP : P <;> by_cases hQ : Q <;> by_cases hR : R <;> by_cases hS : S <;> simp [hP, hQ, hR, hS]
  exact e _ _ _ _ _ _
theorem sp_times_ok {a b c d x y : Int} (hb : 0 < b) (hd : 0 < d) (h : sp_times a b c d = some (x, y)) : sp_ok x y := by
  unfold sp_times at h
  split at h
  · rename_i q
    have h := Option.some.inj h
    have h1 := (congrArg Prod.fst h).symm
    have h2 := (congrArg Prod.snd h).symm
    dsimp only at h1 h2
    rw [h1, h2]
    exact ⟨q.1, Int.mul_pos (Int.ediv_pos_of_pos_of_dvd hb (Int.natCast_nonneg _) (Int.gcd_dvd_right _ _)) (Int.ediv_pos_of_pos_of_dvd hd (Int.natCast_nonneg _) (Int.gcd_dvd_right _ _)), q.2⟩
  · cases h
theorem sp_plus_ok {a b c d x y : Int} (hb : 0 < b) (hd : 0 < d) (h : sp_plus a b c d = some (x, y)) : sp_ok x y := by
  unfold sp_plus at h
  split at h
  · rename_i q
    have h := Option.some.inj h
    have h1 := (congrArg Prod.fst h).symm
    have h2 := (congrArg Prod.snd h).symm
    dsimp only at h1 h2
    have hm : 0 < b * (d / (Int.gcd b d : Int)) := Int.mul_pos hb (Int.ediv_pos_of_pos_of_dvd hd (Int.natCast_nonneg _) (Int.gcd_dvd_right _ _))
    generalize b * (d / (Int.gcd b d : Int)) = m at *
    generalize a * (d / (Int.gcd b d : Int)) + c * (b / (Int.gcd b d : Int)) = n at *
    rw [h1, h2]
    refine ⟨Nat.le_trans (Int.natAbs_ediv_le_natAbs _ _) q.2.2.2, Int.ediv_pos_of_pos_of_dvd hm (Int.natCast_nonneg _) (Int.gcd_dvd_right _ _), ?_⟩
    have := Int.natAbs_ediv_le_natAbs m (Int.gcd n m : Int)
    have h3 := Int.ediv_nonneg (Int.le_of_lt hm) (Int.natCast_nonneg (Int.gcd n m))
    omega
  · cases h
/-! what fits: |x * y| ≤ L -/
theorem pa_fit {X Y : Nat} (h : Y ≠ 0) : X ≤ 4611686018427387904 / Y ↔ X * Y ≤ 4611686018427387904 := Nat.le_div_iff_mul_le (Nat.pos_of_ne_zero h)
/-! small numbers as Int32 -/
theorem pi_of {k : Nat} (h : k < 2147483648) : (Int32.ofNat k).toInt = k := Int32.toInt_ofNat_of_lt (by simpa using h)
theorem pi_lt {a b : Nat} (ha : a < 2147483648) (hb : b < 2147483648) : Int32.ofNat a < Int32.ofNat b ↔ a < b := by
  rw [Int32.lt_iff_toInt_lt, pi_of ha, pi_of hb]
  omega
theorem pi_le {a b : Nat} (ha : a < 2147483648) (hb : b < 2147483648) : Int32.ofNat a ≤ Int32.ofNat b ↔ a ≤ b := by
  rw [Int32.le_iff_toInt_le, pi_of ha, pi_of hb]
  omega
theorem pi_cl {k : Nat} (h : k < 2147483648) : (Int32.ofNat k).toNatClampNeg = k := Int32.toNatClampNeg_ofNat_of_lt (by simpa using h)
theorem pi_succ (k : Nat) : Int32.ofNat k + 1 = Int32.ofNat (k + 1) := by rw [Int32.ofNat_add]; rfl
theorem pi_inR {k n : Nat} (h : k < n) (hn : n ≤ 2147483648) : ct_inR (Int32.ofNat k) n = true := by
  unfold ct_inR
  rw [pi_of (by omega)]
  exact decide_eq_true ⟨by omega, by omega⟩
theorem pi_ex {x : Int32} (h : 0 ≤ x.toInt) : ∃ k : Nat, x = Int32.ofNat k ∧ k < 2147483648 ∧ (k : Int) = x.toInt := by
  have h2 := pa_hi32 x
  refine ⟨x.toInt.toNat, Int32.toInt.inj ?_, by omega, by omega⟩
  rw [pi_of (by omega)]
  omega
