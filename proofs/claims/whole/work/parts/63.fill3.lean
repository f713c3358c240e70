theorem add2 {a b c d : Int32} (h1 : a = c) (h2 : b = d) : a + b = c + d := by rw [h1, h2]
theorem fl_acc1 {s : CS} (hr : iR s) (k2 : CS → Int32 → Option CS) {i : Nat} (hi : i < (cs_I s 4).toNatClampNeg) : ∀ (d n j : Nat) (R : Nat → Nat → Int32), 1 ≤ j → i + j + d = (cs_I s 4).toNatClampNeg → d < n → ∃ R', bk_Tr_accumulate_12 k2 n (cR s R) (Int32.ofNat i) (Int32.ofNat j) = k2 (cR s R') (Int32.ofNat (i + 1)) ∧ (∀ a b, a ≠ i → R' a b = R a b) ∧ (∀ b, b < j → R' i b = R i b) ∧ ∀ b, j ≤ b → i + b < (cs_I s 4).toNatClampNeg → R' i b = R i b + R' i (b - 1) := by
  obtain ⟨-, -, -, -, ⟨q3, q4⟩, -⟩ := hr
  have n4 := pi_nat (show 0 ≤ (cs_I s 4).toInt by omega)
  intro d
  induction d with
  | zero =>
    intro n j R hj he hn
    obtain ⟨n, rfl⟩ : ∃ z, n = z + 1 := ⟨n - 1, by omega⟩
    refine ⟨R, ?_, fun _ _ _ => rfl, fun _ _ => rfl, fun b h1 h2 => by omega⟩
    show bk_Tr_accumulate_12_o k2 (bk_Tr_accumulate_12 k2 n) (cR s R) (Int32.ofNat i) (Int32.ofNat j) = _
    unfold bk_Tr_accumulate_12_o
    have h6 : cs_I (cR s R) 4 - Int32.ofNat i ≤ Int32.ofNat j := by
      show cs_I s 4 - Int32.ofNat i ≤ _
      rw [pi_le32, Int32.toInt_sub, pi_of (by omega), pi_of (by omega), pa_bm32 (by omega) (by omega)]
      omega
    rw [if_pos h6, pi_succ]
  | succ d ih =>
    intro n j R hj he hn
    obtain ⟨n, rfl⟩ : ∃ z, n = z + 1 := ⟨n - 1, by omega⟩
    obtain ⟨R', h1, h2, h3, h4⟩ := ih n (j + 1) (va_up R i (upd (R i) j (R i j + R i (j - 1)))) (by omega) (by omega) (by omega)
    refine ⟨R', ?_, fun a b ha => ?_, fun b hb => ?_, fun b hb1 hb2 => ?_⟩
    · show bk_Tr_accumulate_12_o k2 (bk_Tr_accumulate_12 k2 n) (cR s R) (Int32.ofNat i) (Int32.ofNat j) = _
      unfold bk_Tr_accumulate_12_o
      have h6 : ¬ cs_I (cR s R) 4 - Int32.ofNat i ≤ Int32.ofNat j := by
        show ¬ cs_I s 4 - Int32.ofNat i ≤ _
        rw [pi_le32, Int32.toInt_sub, pi_of (by omega), pi_of (by omega), pa_bm32 (by omega) (by omega)]
        omega
      have e1 : Int32.ofNat j - 1 = Int32.ofNat (j - 1) := Int32.toInt.inj (by
        have e : (1 : Int32).toInt = 1 := rfl
        rw [Int32.toInt_sub, pi_of (by omega), pi_of (by omega), e, pa_bm32 (by omega) (by omega)]
        omega)
      have i1 : ct_inR (Int32.ofNat i) 6 = true := pi_inR (by omega) (by omega)
      have i2 : ct_inR (Int32.ofNat j) 6 = true := pi_inR (by omega) (by omega)
      have i3 : ct_inR (Int32.ofNat (j - 1)) 6 = true := pi_inR (by omega) (by omega)
      rw [if_neg h6, e1, i1, i2, i3, ct_gd_t, ct_gd_t, ct_gd_t, ct_gd_t, ct_gd_t, ct_nm_eq, pi_cl (by omega), pi_cl (by omega), pi_cl (by omega), pi_succ]
      exact h1
    · rw [h2 a b ha, up_at, if_neg (fun q => ha q.1)]
    · rw [h3 b (by omega), up_at, if_neg (by omega)]
    · by_cases c : b = j
      · subst c
        rw [h3 b (by omega), up_at, if_pos ⟨rfl, rfl⟩, h3 (b - 1) (by omega), up_at, if_neg (by omega)]
      · rw [h4 b (by omega) hb2, up_at, if_neg (fun q => c q.2)]
theorem fl_acc2 {s : CS} (hr : iR s) : ∀ (d n i : Nat) (R : Nat → Nat → Int32), i + d = (cs_I s 4).toNatClampNeg → d < n → ∃ R', bk_Tr_accumulate_2 n (cR s R) (Int32.ofNat i) = some (cR s R') ∧ (∀ a b, a < i → R' a b = R a b) ∧ ∀ a b, i ≤ a → a + b < (cs_I s 4).toNatClampNeg → R' a b = pu_s (b + 1) (R a) := by
  have hr' := hr
  obtain ⟨-, -, -, -, ⟨q3, q4⟩, -⟩ := hr'
  have n4 := pi_nat (show 0 ≤ (cs_I s 4).toInt by omega)
  have e4 : cs_I s 4 = Int32.ofNat (cs_I s 4).toNatClampNeg := Int32.toInt.inj (by rw [pi_of (by omega)]; omega)
  intro d
  induction d with
  | zero =>
    intro n i R hi hn
    obtain ⟨n, rfl⟩ : ∃ z, n = z + 1 := ⟨n - 1, by omega⟩
    refine ⟨R, ?_, fun _ _ _ => rfl, fun a b h1 h2 => by omega⟩
    show bk_Tr_accumulate_2_o (bk_Tr_accumulate_2 n) (cR s R) (Int32.ofNat i) = _
    unfold bk_Tr_accumulate_2_o
    have h6 : cs_I (cR s R) 4 ≤ Int32.ofNat i := by show cs_I s 4 ≤ _; rw [e4]; exact (pi_le (by omega) (by omega)).mpr (by omega)
    rw [if_pos h6]
  | succ d ih =>
    intro n i R hi hn
    obtain ⟨n, rfl⟩ : ∃ z, n = z + 1 := ⟨n - 1, by omega⟩
    obtain ⟨R1, h1, h2, h3, h4⟩ := fl_acc1 hr (bk_Tr_accumulate_2 n) (i := i) (by omega) ((cs_I s 4).toNatClampNeg - i - 1) 200 1 R (by omega) (by omega) (by omega)
    obtain ⟨R2, k1, k2, k3⟩ := ih n (i + 1) R1 (by omega) (by omega)
    refine ⟨R2, ?_, fun a b ha => ?_, fun a b ha hb => ?_⟩
    · show bk_Tr_accumulate_2_o (bk_Tr_accumulate_2 n) (cR s R) (Int32.ofNat i) = _
      unfold bk_Tr_accumulate_2_o
      have h6 : ¬ cs_I (cR s R) 4 ≤ Int32.ofNat i := by show ¬ cs_I s 4 ≤ _; rw [e4]; exact fun q => by have := (pi_le (by omega) (by omega)).mp q; omega
      rw [if_neg h6]
      exact h1.trans k1
    · rw [k2 a b (by omega), h2 a b (by omega)]
    · by_cases c : a = i
      · subst c
        rw [k2 a b (by omega)]
        have row : ∀ b, a + b < (cs_I s 4).toNatClampNeg → R1 a b = pu_s (b + 1) (R a) := by
          intro b
          induction b with
          | zero =>
            intro _
            rw [h3 0 (by omega)]
            show R a 0 = 0 + R a 0
            rw [Int32.zero_add]
          | succ b ihb =>
            intro hb2
            rw [h4 (b + 1) (by omega) hb2, show b + 1 - 1 = b by omega, ihb (by omega)]
            show R a (b + 1) + pu_s (b + 1) (R a) = pu_s (b + 1) (R a) + R a (b + 1)
            rw [Int32.add_comm]
        exact row b hb
      · rw [k3 a b (by omega) hb]
        exact pu_ext (fun k _ => h2 a k c)
/-- how often a month falls into the cells of a row up to j -/
theorem fl_hv {s : CS} {o m i j : Nat} {v : Int32} (hs : 0 < stp s) (hom : o ≤ m) (hij : i + j < (cs_I s 4).toNatClampNeg) : pu_s (j + 1) (fun b => hv s o m i b v) = if o / stp s = i ∧ m < (i + j + 1) * stp s then v else 0 := by
  have hle : o / stp s ≤ m / stp s := Nat.div_le_div_right hom
  have hlt : m < (i + j + 1) * stp s ↔ m / stp s < i + j + 1 := (Nat.div_lt_iff_lt_mul hs).symm
  unfold hv
  generalize m / stp s = M at *
  generalize o / stp s = N at *
  by_cases c : N = i ∧ m < (i + j + 1) * stp s
  · have c2 := hlt.mp c.2
    rw [if_pos c]
    have e : (if M < (cs_I s 4).toNatClampNeg ∧ i = N ∧ M - N = M - N then v else 0) = v := if_pos ⟨by omega, c.1.symm, rfl⟩
    exact (pu_one (f := fun b => if M < (cs_I s 4).toNatClampNeg ∧ i = N ∧ b = M - N then v else 0) (show M - N < j + 1 by omega) (fun b _ hne => if_neg (fun q => hne q.2.2))).trans e
  · rw [if_neg c]
    exact pu_z (fun b hb => if_neg (fun q => c ⟨q.2.1.symm, hlt.mpr (by omega)⟩))
theorem fl_fill {s : CS} (hE : okE s) (hr : iR s) : ∃ R', fn_Tr_fill s = some (cR s R') ∧ ∀ i j, i + j < (cs_I s 4).toNatClampNeg → R' i j = cellS s i j := by
  have hr' := hr
  obtain ⟨⟨q1, q2⟩, -, ⟨q5, q6⟩, -, ⟨q3, q4⟩, -⟩ := hr'
  have n0 := pi_nat q1
  have n2 := pi_nat (show 0 ≤ (cs_I s 2).toInt by omega)
  have n4 := pi_nat (show 0 ≤ (cs_I s 4).toInt by omega)
  have hst : 0 < stp s := by unfold stp; omega
  obtain ⟨R0, h1, h2⟩ := fl_clear s
  obtain ⟨R1, h3, h4⟩ := fl_loop hE hr (nE s) 200 0 R0 (by omega) (by unfold nE; omega) (fun a b ha hb => h2 a b ha hb)
  obtain ⟨R2, h5, -, h6⟩ := fl_acc2 hr (cs_I s 4).toNatClampNeg 200 0 R1 (by omega) (by omega)
  refine ⟨R2, ?_, fun i j hij => ?_⟩
  · unfold fn_Tr_fill
    rw [h1, ct_ob_s]
    refine h3.trans ?_
    have h5' : fn_Tr_accumulate (cR s R1) = some (cR s R2) := h5
    rw [h5']
    rfl
  · rw [h6 i j (by omega) hij, pu_ext (n := j + 1) (f := R1 i) (g := fun b => pu_s (nE s) (fun e => con s e i b)) (fun b hb => h4 i b (by omega) (by omega)), pu_swap]
    unfold cellS
    have hB : (i + j + 1) * stp s ≤ 72 := by
      have h8 : (i + j + 1) * stp s ≤ 6 * 12 := Nat.mul_le_mul (by omega) (by unfold stp; omega)
      omega
    have hall := pe_all (isE s) (og s) (mth s) (cs_A s 3) i (stp s) ((i + j + 1) * stp s) (nE s) hst hB
    have hgo : ∀ e, e < nE s → pu_s (j + 1) (fun b => con s e i b) = (if isP s e = true ∧ og s e / stp s = i ∧ mth s e < (i + j + 1) * stp s then cs_A s 3 e else 0) + (if cs_I s 3 = 0 then 0 else if isE s e = true ∧ og s e / stp s = i then (if mth s e < (i + j + 1) * stp s then cs_A s 3 e else 0) + (if pe_rep (isE s) (og s) (mth s) e (nE s) < (i + j + 1) * stp s then -(cs_A s 3 e) else 0) else 0) := by
      intro e he
      obtain ⟨m1, m2, m3, m4, m5⟩ := mth_of hE hr he
      have hg := pe_rep_ge (isE s) (og s) (mth s) e (by omega) (nE s)
      unfold con
      rw [pu_add]
      refine add2 ?_ ?_
      · by_cases c : isP s e = true
        · simp only [c, if_true, true_and]
          exact fl_hv hst m3 hij
        · rw [if_neg (fun q => c q.1)]
          exact pu_z (fun b _ => if_neg c)
      · by_cases c : isE s e = true
        · by_cases c3 : cs_I s 3 = 0
          · rw [if_pos c3]
            exact pu_z (fun b _ => by rw [if_pos c, if_pos c3])
          · rw [if_neg c3]
            have e1 : pu_s (j + 1) (fun b => if isE s e = true then (if cs_I s 3 = 0 then 0 else hv s (og s e) (mth s e) i b (cs_A s 3 e) + hv s (og s e) (pe_rep (isE s) (og s) (mth s) e (nE s)) i b (-(cs_A s 3 e))) else 0) = pu_s (j + 1) (fun b => hv s (og s e) (mth s e) i b (cs_A s 3 e) + hv s (og s e) (pe_rep (isE s) (og s) (mth s) e (nE s)) i b (-(cs_A s 3 e))) := pu_ext (fun b _ => by rw [if_pos c, if_neg c3])
            rw [e1, pu_add, fl_hv hst m3 hij, fl_hv hst (show og s e ≤ pe_rep (isE s) (og s) (mth s) e (nE s) by omega) hij]
            by_cases c5 : og s e / stp s = i
            · have cc : isE s e = true ∧ og s e / stp s = i := ⟨c, c5⟩
              simp only [c5, c, true_and, if_true, and_self]
            · rw [if_neg (fun q => c5 q.1), if_neg (fun q => c5 q.1), if_neg (fun q => c5 q.2)]
              rfl
        · have e1 : pu_s (j + 1) (fun b => if isE s e = true then (if cs_I s 3 = 0 then 0 else hv s (og s e) (mth s e) i b (cs_A s 3 e) + hv s (og s e) (pe_rep (isE s) (og s) (mth s) e (nE s)) i b (-(cs_A s 3 e))) else 0) = 0 := pu_z (fun b _ => if_neg c)
          have cc : ¬ (isE s e = true ∧ og s e / stp s = i) := fun q => c q.1
          rw [e1, if_neg cc]
          split <;> rfl
    rw [pu_ext hgo, pu_add]
    refine add2 rfl ?_
    by_cases c3 : cs_I s 3 = 0
    · rw [if_pos c3]
      exact pu_z (fun e _ => if_pos c3)
    · rw [if_neg c3]
      exact (pu_ext (fun e _ => if_neg c3)).trans hall
