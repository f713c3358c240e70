/-! Triangle.fill: the cells become cellS -/
def cR (s : CS) (R : Nat → Nat → Int32) : CS := (s.1, s.2.1, R, s.2.2.2)
theorem pl_lit {k j : Nat} (hk : k < 2147483648) (h : j < 2147483648) : Int32.ofNat k ≤ Int32.ofNat j ↔ k ≤ j := pi_le hk h
theorem up_at {R : Nat → Nat → Int32} {i j a b : Nat} {v : Int32} : va_up R i (upd (R i) j v) a b = if a = i ∧ b = j then v else R a b := by
  unfold va_up upd
  by_cases h : a = i
  · subst h
    by_cases g : b = j <;> simp [g]
  · simp [h]
theorem fl_clear1 (s : CS) (k2 : CS → Int32 → Option CS) {i : Nat} (hi : i < 6) : ∀ (d n j : Nat) (R : Nat → Nat → Int32), j + d = 6 → d < n → ∃ R', bk_Tr_clear_10 k2 n (cR s R) (Int32.ofNat i) (Int32.ofNat j) = k2 (cR s R') (Int32.ofNat (i + 1)) ∧ ∀ a b, R' a b = if a = i ∧ j ≤ b ∧ b < 6 then 0 else R a b := by
  intro d
  induction d with
  | zero =>
    intro n j R hj hn
    obtain ⟨n, rfl⟩ : ∃ z, n = z + 1 := ⟨n - 1, by omega⟩
    refine ⟨R, ?_, fun a b => ?_⟩
    · show bk_Tr_clear_10_o k2 (bk_Tr_clear_10 k2 n) (cR s R) (Int32.ofNat i) (Int32.ofNat j) = _
      unfold bk_Tr_clear_10_o
      have h6 : (6 : Int32) ≤ Int32.ofNat j := (pl_lit (k := 6) (by decide) (by omega)).mpr (by omega)
      rw [if_pos h6, pi_succ]
    · rw [if_neg (by omega)]
  | succ d ih =>
    intro n j R hj hn
    obtain ⟨n, rfl⟩ : ∃ z, n = z + 1 := ⟨n - 1, by omega⟩
    obtain ⟨R', h1, h2⟩ := ih n (j + 1) (va_up R i (upd (R i) j 0)) (by omega) (by omega)
    refine ⟨R', ?_, fun a b => ?_⟩
    · show bk_Tr_clear_10_o k2 (bk_Tr_clear_10 k2 n) (cR s R) (Int32.ofNat i) (Int32.ofNat j) = _
      unfold bk_Tr_clear_10_o
      have hn6 : ¬ (6 : Int32) ≤ Int32.ofNat j := fun q => by have := (pl_lit (k := 6) (by decide) (by omega)).mp q; omega
      rw [if_neg hn6, pi_inR hi (by omega), ct_gd_t, pi_inR (show j < 6 by omega) (by omega), ct_gd_t, ct_nm_eq, pi_cl (by omega), pi_cl (by omega), pi_succ]
      exact h1
    · rw [h2, up_at]
      by_cases c : a = i ∧ b = j
      · rw [if_neg (by omega), if_pos c, if_pos (by omega)]
      · rw [if_neg c]
        by_cases c2 : a = i ∧ j + 1 ≤ b ∧ b < 6
        · rw [if_pos c2, if_pos (by omega)]
        · rw [if_neg c2, if_neg (by omega)]
theorem fl_clear2 (s : CS) : ∀ (d n i : Nat) (R : Nat → Nat → Int32), i + d = 6 → d < n → ∃ R', bk_Tr_clear_2 n (cR s R) (Int32.ofNat i) = some (cR s R') ∧ ∀ a b, R' a b = if i ≤ a ∧ a < 6 ∧ b < 6 then 0 else R a b := by
  intro d
  induction d with
  | zero =>
    intro n i R hi hn
    obtain ⟨n, rfl⟩ : ∃ z, n = z + 1 := ⟨n - 1, by omega⟩
    refine ⟨R, ?_, fun a b => by rw [if_neg (by omega)]⟩
    show bk_Tr_clear_2_o (bk_Tr_clear_2 n) (cR s R) (Int32.ofNat i) = _
    unfold bk_Tr_clear_2_o
    have h6 : (6 : Int32) ≤ Int32.ofNat i := (pl_lit (k := 6) (by decide) (by omega)).mpr (by omega)
    rw [if_pos h6]
  | succ d ih =>
    intro n i R hi hn
    obtain ⟨n, rfl⟩ : ∃ z, n = z + 1 := ⟨n - 1, by omega⟩
    obtain ⟨R1, h1, h2⟩ := fl_clear1 s (bk_Tr_clear_2 n) (i := i) (by omega) 6 200 0 R (by omega) (by omega)
    obtain ⟨R2, h3, h4⟩ := ih n (i + 1) R1 (by omega) (by omega)
    refine ⟨R2, ?_, fun a b => ?_⟩
    · show bk_Tr_clear_2_o (bk_Tr_clear_2 n) (cR s R) (Int32.ofNat i) = _
      unfold bk_Tr_clear_2_o
      have hn6 : ¬ (6 : Int32) ≤ Int32.ofNat i := fun q => by have := (pl_lit (k := 6) (by decide) (by omega)).mp q; omega
      rw [if_neg hn6]
      exact h1.trans h3
    · rw [h4, h2]
      by_cases c : i + 1 ≤ a ∧ a < 6 ∧ b < 6
      · rw [if_pos c, if_pos (by omega)]
      · rw [if_neg c]
        by_cases c2 : a = i ∧ 0 ≤ b ∧ b < 6
        · rw [if_pos c2, if_pos (by omega)]
        · rw [if_neg c2, if_neg (by omega)]
theorem fl_clear (s : CS) : ∃ R', fn_Tr_clear s = some (cR s R') ∧ ∀ a b, a < 6 → b < 6 → R' a b = 0 := by
  obtain ⟨R', h1, h2⟩ := fl_clear2 s 6 200 0 (cs_R s) (by omega) (by omega)
  exact ⟨R', h1, fun a b ha hb => by rw [h2, if_pos (by omega)]⟩
/-- one amount into its cell -/
theorem pi_div {a b : Int32} (ha : 0 ≤ a.toInt) (hb : 0 < b.toInt) : (a / b).toInt = ((a.toNatClampNeg / b.toNatClampNeg : Nat) : Int) := by
  have h1 := pa_hi32 a
  have e1 : (a.toNatClampNeg : Int) = a.toInt := by show ((a.toInt.toNat : Nat) : Int) = _; omega
  have e2 : (b.toNatClampNeg : Int) = b.toInt := by show ((b.toInt.toNat : Nat) : Int) = _; omega
  rw [Int32.toInt_div, Int.tdiv_eq_ediv_of_nonneg ha, Int.natCast_ediv, e1, e2]
  have h2 : a.toInt / b.toInt ≤ a.toInt := Int.ediv_le_self _ ha
  have h3 := Int.ediv_nonneg ha (Int.le_of_lt hb)
  exact pa_bm32 (by omega) (by omega)
theorem pi_nat {a : Int32} (ha : 0 ≤ a.toInt) : (a.toNatClampNeg : Int) = a.toInt := by show ((a.toInt.toNat : Nat) : Int) = _; omega
theorem fl_add {s : CS} (hr : iR s) (R : Nat → Nat → Int32) {a1 a2 a3 : Int32} (h0 : 0 ≤ a1.toInt) (h1 : a1.toInt ≤ a2.toInt) : ∃ R', fn_Tr_add (cR s R) a1 a2 a3 = some (cR s R') ∧ ∀ a b, R' a b = R a b + (if a2.toNatClampNeg / stp s < (cs_I s 4).toNatClampNeg ∧ a = a1.toNatClampNeg / stp s ∧ b = a2.toNatClampNeg / stp s - a1.toNatClampNeg / stp s then a3 else 0) := by
  obtain ⟨-, -, ⟨q1, q2⟩, -, ⟨q3, q4⟩, -⟩ := hr
  have hz : ct_gzI (cs_I s 2) = true := decide_eq_true (fun e => by rw [e] at q1; exact absurd q1 (by decide))
  have d1 := pi_div (b := cs_I s 2) h0 (by omega)
  have d2 := pi_div (b := cs_I s 2) (show 0 ≤ a2.toInt by omega) (by omega)
  have n1 := pi_nat h0
  have n2 := pi_nat (show 0 ≤ a2.toInt by omega)
  have n4 := pi_nat (show 0 ≤ (cs_I s 4).toInt by omega)
  have hle : a1.toNatClampNeg / (cs_I s 2).toNatClampNeg ≤ a2.toNatClampNeg / (cs_I s 2).toNatClampNeg := Nat.div_le_div_right (by omega)
  unfold fn_Tr_add
  show ∃ R', (ct_gd (ct_gzI (cs_I s 2)) <| ct_nm (a1 / cs_I s 2) fun x1 => ct_gd (ct_gzI (cs_I s 2)) <| ct_nm (a2 / cs_I s 2) fun x2 => if cs_I s 4 ≤ x2 then some (cR s R) else ct_gd (ct_inR x1 6) <| ct_gd (ct_inR (x2 - x1) 6) <| ct_gd (ct_inR (x2 - x1) 6) <| ct_nm (cR s (va_up R x1.toNatClampNeg (upd (R x1.toNatClampNeg) (x2 - x1).toNatClampNeg (R x1.toNatClampNeg (x2 - x1).toNatClampNeg + a3)))) fun s3 => some s3) = some (cR s R') ∧ _
  rw [hz, ct_gd_t, ct_nm_eq, ct_gd_t, ct_nm_eq]
  unfold stp
  generalize a1 / cs_I s 2 = x1 at *
  generalize a2 / cs_I s 2 = x2 at *
  generalize a1.toNatClampNeg / (cs_I s 2).toNatClampNeg = u1 at *
  generalize a2.toNatClampNeg / (cs_I s 2).toNatClampNeg = u2 at *
  by_cases c : cs_I s 4 ≤ x2
  · rw [if_pos c]
    rw [pi_le32] at c
    refine ⟨R, rfl, fun a b => ?_⟩
    rw [if_neg (by omega), Int32.add_zero]
  · rw [if_neg c]
    rw [pi_le32] at c
    have hx2 := pa_hi32 x2
    have e3 : (x2 - x1).toInt = u2 - u1 := by rw [Int32.toInt_sub, d1, d2, pa_bm32 (by omega) (by omega)]
    have i1 : ct_inR x1 6 = true := decide_eq_true ⟨by omega, by omega⟩
    have i2 : ct_inR (x2 - x1) 6 = true := decide_eq_true ⟨by omega, by omega⟩
    have k1 : x1.toNatClampNeg = u1 := by show x1.toInt.toNat = u1; omega
    have k2 : (x2 - x1).toNatClampNeg = u2 - u1 := by show (x2 - x1).toInt.toNat = _; omega
    rw [i1, ct_gd_t, i2, ct_gd_t, ct_gd_t, ct_nm_eq, k1, k2]
    refine ⟨_, rfl, fun a b => ?_⟩
    rw [up_at]
    by_cases c2 : a = u1 ∧ b = u2 - u1
    · rw [if_pos c2, if_pos (by omega), c2.1, c2.2]
    · rw [if_neg c2, if_neg (fun q => c2 q.2), Int32.add_zero]
/-- the month in which an estimate is replaced -/
def okE (s : CS) : Prop := ∀ e : Nat, (e : Int) < (cs_I s 0).toInt → 0 ≤ (cs_A s 1 e).toInt ∧ (cs_A s 1 e).toInt ≤ (cs_A s 2 e).toInt ∧ (cs_A s 2 e).toInt ≤ 71
theorem fl_lives (s : CS) {e : Nat} (he : e < 60) (l : Int32) : fn_Le_livesIn s (Int32.ofNat e) l = some (if ¬ cs_A s 5 e = 0 ∧ cs_A s 0 e = l then 1 else 0) := by
  unfold fn_Le_livesIn
  rw [pi_inR he (by omega), ct_gd_t, ct_gd_t, pi_cl (by omega)]
  by_cases h1 : cs_A s 5 e = 0
  · rw [if_pos h1, if_neg (fun q => q.1 h1)]
  · rw [if_neg h1]
    by_cases h2 : cs_A s 0 e = l
    · rw [if_neg (fun q => q h2), if_pos ⟨h1, h2⟩]
    · rw [if_pos h2, if_neg (fun q => h2 q.2)]
theorem pn_eq {a b : Int32} (ha : 0 ≤ a.toInt) (hb : 0 ≤ b.toInt) : a = b ↔ a.toNatClampNeg = b.toNatClampNeg := by
  constructor
  · intro h; rw [h]
  · intro h
    have h1 := pi_nat ha
    have h2 := pi_nat hb
    exact Int32.toInt.inj (by omega)
theorem pn_lt {a b : Int32} (ha : 0 ≤ a.toInt) (hb : 0 ≤ b.toInt) : a < b ↔ a.toNatClampNeg < b.toNatClampNeg := by
  have h1 := pi_nat ha
  have h2 := pi_nat hb
  rw [pi_lt32]
  omega
theorem pn_le {a b : Int32} (ha : 0 ≤ a.toInt) (hb : 0 ≤ b.toInt) : a ≤ b ↔ a.toNatClampNeg ≤ b.toNatClampNeg := by
  have h1 := pi_nat ha
  have h2 := pi_nat hb
  rw [pi_le32]
  omega
theorem fl_replaces {s : CS} (hE : okE s) (hr : iR s) {e f : Nat} (he : e < nE s) (hf : f < nE s) (hl : cs_A s 0 e = cs_I s 1) : fn_Le_replaces s (Int32.ofNat f) (Int32.ofNat e) = some (if isE s f = true ∧ og s f = og s e ∧ (mth s e < mth s f ∨ (mth s f = mth s e ∧ e < f)) then 1 else 0) := by
  have hn := pi_nat hr.1.1
  have hn2 := hr.1.2
  unfold nE at he hf
  obtain ⟨e1, e2, e3⟩ := hE e (by omega)
  obtain ⟨f1, f2, f3⟩ := hE f (by omega)
  have i1 : ct_inR (Int32.ofNat f) 60 = true := pi_inR (by omega) (by omega)
  have i2 : ct_inR (Int32.ofNat e) 60 = true := pi_inR (by omega) (by omega)
  unfold fn_Le_replaces
  rw [i1, i2, ct_gd_t, pi_cl (show f < 2147483648 by omega), pi_cl (show e < 2147483648 by omega)]
  unfold isE lvs og mth
  by_cases h4 : cs_A s 4 f = 0
  · rw [if_pos h4, if_neg (fun q => by have := q.1; simp [h4] at this)]
  · rw [if_neg h4, ct_gd_t, fl_lives s (by omega), ct_ob_s, hl]
    by_cases h5 : ¬ cs_A s 5 f = 0 ∧ cs_A s 0 f = cs_I s 1
    · rw [if_pos h5, if_pos pf_one0, ct_gd_t, ct_gd_t]
      have b1 : (decide (¬ cs_A s 5 f = 0 ∧ cs_A s 0 f = cs_I s 1) && decide (¬ cs_A s 4 f = 0)) = true := by simp [h4, h5]
      rw [b1]
      by_cases h6 : cs_A s 1 f = cs_A s 1 e
      · rw [if_pos h6, ct_gd_t, ct_gd_t]
        have g6 := (pn_eq f1 e1).mp h6
        by_cases h7 : cs_A s 2 e < cs_A s 2 f
        · rw [if_pos h7]
          have g7 := (pn_lt (by omega) (by omega)).mp h7
          rw [if_pos ⟨rfl, g6, Or.inl g7⟩]
        · rw [if_neg h7, ct_gd_t, ct_gd_t]
          have g7 : ¬ (cs_A s 2 e).toNatClampNeg < (cs_A s 2 f).toNatClampNeg := fun q => h7 ((pn_lt (by omega) (by omega)).mpr q)
          by_cases h8 : cs_A s 2 f = cs_A s 2 e
          · rw [if_neg (fun q => q h8)]
            have g8 := (pn_eq (by omega) (by omega)).mp h8
            by_cases h9 : Int32.ofNat f ≤ Int32.ofNat e
            · rw [if_pos h9]
              have g9 := (pi_le (by omega) (by omega)).mp h9
              rw [if_neg (by omega)]
            · rw [if_neg h9]
              have g9 : ¬ f ≤ e := fun q => h9 ((pi_le (by omega) (by omega)).mpr q)
              rw [if_pos ⟨rfl, g6, Or.inr ⟨g8, by omega⟩⟩]
          · rw [if_pos h8]
            have g8 : ¬ (cs_A s 2 f).toNatClampNeg = (cs_A s 2 e).toNatClampNeg := fun q => h8 ((pn_eq (by omega) (by omega)).mpr q)
            rw [if_neg (by omega)]
      · rw [if_neg h6]
        have g6 : ¬ (cs_A s 1 f).toNatClampNeg = (cs_A s 1 e).toNatClampNeg := fun q => h6 ((pn_eq f1 e1).mpr q)
        rw [if_neg (fun q => g6 q.2.1)]
    · rw [if_neg h5, if_neg (fun q => q rfl), if_neg (fun q => by have := q.1; simp [h5] at this)]
