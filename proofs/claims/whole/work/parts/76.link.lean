/-! the factors on both sides -/
def tk (s : CS) (i j : Nat) : Bool := decide (cs_A s 6 (6 * i + j) = 0 ∧ cs_A s 6 (6 * i + j + 1) = 0)
def lkS (s : CS) (w j : Nat) : Nat → Nat → Int64 × Int64
  | 0, _ => (0, 0)
  | i + 1, k => if k < w ∧ tk s i j = true then ((cs_R s i (j + 1)).toInt64 + (lkS s w j i (k + 1)).1, (cs_R s i j).toInt64 + (lkS s w j i (k + 1)).2) else lkS s w j i k
theorem lkS_end {s : CS} {w j k : Nat} (h : w ≤ k) : ∀ i, lkS s w j i k = (0, 0) := by
  intro i
  induction i with
  | zero => rfl
  | succ i ih =>
    have n : ¬ (k < w ∧ tk s i j = true) := fun q => by omega
    show (if k < w ∧ tk s i j = true then _ else lkS s w j i k) = _
    rw [if_neg n, ih]
theorem lkS_bd {s : CS} {w j : Nat} : ∀ i k, i ≤ 6 → (lkS s w j i k).1.toInt.natAbs ≤ i * 2147483648 ∧ (lkS s w j i k).2.toInt.natAbs ≤ i * 2147483648 := by
  intro i
  induction i with
  | zero =>
    intro k _
    exact ⟨Nat.zero_le _, Nat.zero_le _⟩
  | succ i ih =>
    intro k hi
    by_cases c : k < w ∧ tk s i j = true
    · have e : lkS s w j (i + 1) k = ((cs_R s i (j + 1)).toInt64 + (lkS s w j i (k + 1)).1, (cs_R s i j).toInt64 + (lkS s w j i (k + 1)).2) := if_pos c
      rw [e]
      obtain ⟨h1, h2⟩ := ih (k + 1) (by omega)
      have e2 : (cs_R s i (j + 1)).toInt64.toInt = (cs_R s i (j + 1)).toInt := Int32.toInt_toInt64 _
      have e3 : (cs_R s i j).toInt64.toInt = (cs_R s i j).toInt := Int32.toInt_toInt64 _
      have b1 := pa_hi32 (cs_R s i (j + 1))
      have b2 := pa_hi32 (cs_R s i j)
      have b3 := pa_lo32 (cs_R s i (j + 1))
      have b4 := pa_lo32 (cs_R s i j)
      refine ⟨?_, ?_⟩
      · show ((cs_R s i (j + 1)).toInt64 + (lkS s w j i (k + 1)).1).toInt.natAbs ≤ _
        rw [pa_add (by omega) (by omega), e2]
        omega
      · show ((cs_R s i j).toInt64 + (lkS s w j i (k + 1)).2).toInt.natAbs ≤ _
        rw [pa_add (by omega) (by omega), e3]
        omega
    · have e : lkS s w j (i + 1) k = lkS s w j i k := if_neg c
      rw [e]
      obtain ⟨h1, h2⟩ := ih k (by omega)
      exact ⟨Nat.le_trans h1 (Nat.mul_le_mul_right _ (by omega)), Nat.le_trans h2 (Nat.mul_le_mul_right _ (by omega))⟩
theorem lkS_big {s : CS} {w j i k : Nat} (hi : i ≤ 6) : (lkS s w j i k).1.toInt.natAbs ≤ 4611686018427387904 ∧ (lkS s w j i k).2.toInt.natAbs ≤ 4611686018427387904 := by
  obtain ⟨h1, h2⟩ := lkS_bd (s := s) (w := w) (j := j) i k hi
  exact ⟨by omega, by omega⟩
theorem pi_6' (a b : Nat) : Int32.ofNat a * (6 : Int32) + Int32.ofNat b = Int32.ofNat (6 * a + b) := by rw [Int32.mul_comm, pi_6]
theorem lk_takes {s : CS} {i j : Nat} (h : 6 * i + j + 1 < 36) : fn_Tr_takes s (Int32.ofNat i) (Int32.ofNat j) = some (if tk s i j = true then 1 else 0) := by
  unfold fn_Tr_takes
  rw [pi_6', pi_inR (show 6 * i + j < 36 by omega) (by omega), ct_gd_t, pi_cl (by omega), pi_succ, pi_inR h (by omega), ct_gd_t, pi_cl (by omega)]
  have e : tk s i j = true ↔ cs_A s 6 (6 * i + j) = 0 ∧ cs_A s 6 (6 * i + j + 1) = 0 := decide_eq_true_iff
  by_cases c1 : cs_A s 6 (6 * i + j) = 0
  · by_cases c2 : cs_A s 6 (6 * i + j + 1) = 0
    · rw [if_neg (fun q => q c1), if_neg (fun q => q c2), if_pos (e.mpr ⟨c1, c2⟩)]
    · rw [if_neg (fun q => q c1), if_pos c2, if_neg (fun q => c2 (e.mp q).2)]
  · rw [if_pos c1, if_neg (fun q => c1 (e.mp q).1)]
theorem mk_takes {s : CS} {t : MS} (h : Inv s t) {i j n : Nat} (hn : n ≤ 6) (hij : i + j + 1 < n) : fn_Mo_takes t (Int32.ofNat i) (Int32.ofNat j) (Int32.ofNat n) = some (if tk s i j = true then 1 else 0) := by
  unfold fn_Mo_takes
  have n1 : ¬ Int32.ofNat n ≤ Int32.ofNat i + Int32.ofNat j + 1 := fun q => by
    rw [pi_add, pi_succ] at q
    have := (pi_le (by omega) (by omega)).mp q
    omega
  have o1 := (h.2.2.2.2.2.1 (6 * i + j) (by omega)).1
  have o2 := (h.2.2.2.2.2.1 (6 * i + j + 1) (by omega)).1
  rw [if_neg n1, pi_6, pi_inR (show 6 * i + j < 36 by omega) (by omega), ct_gd_t, pi_cl (by omega), pi_succ, pi_inR (show 6 * i + j + 1 < 36 by omega) (by omega), ct_gd_t, pi_cl (by omega), ← o1, ← o2]
  have e : tk s i j = true ↔ cs_A s 6 (6 * i + j) = 0 ∧ cs_A s 6 (6 * i + j + 1) = 0 := decide_eq_true_iff
  by_cases c1 : cs_A s 6 (6 * i + j) = 0
  · by_cases c2 : cs_A s 6 (6 * i + j + 1) = 0
    · rw [if_neg (fun q => q c1), if_neg (fun q => q c2), if_pos (e.mpr ⟨c1, c2⟩)]
    · rw [if_neg (fun q => q c1), if_pos c2, if_neg (fun q => c2 (e.mp q).2)]
  · rw [if_pos c1, if_neg (fun q => c1 (e.mp q).1)]
theorem ob_id {α : Type} (q : Option α) : ct_ob q (fun a => some a) = q := by
  cases q <;> rfl
theorem lu_loop {s : CS} {j w : Nat} (hw : w ≤ 6) : ∀ (r n k : Nat) (a b : Int64), r + j + 1 ≤ 6 → 1 ≤ r ∨ j < 5 → k + r ≤ 6 → r < n → bk_Re_linkUp_21 (Int32.ofNat j) (Int32.ofNat w) n s a b (Int32.ofNat k) (Int32.ofNat r - 1) = fn_Fr_become s (3 + j) (a + (lkS s w j r k).1) (b + (lkS s w j r k).2) := by
  intro r
  induction r with
  | zero =>
    intro n k a b hj h5 hk hn
    obtain ⟨n, rfl⟩ : ∃ z, n = z + 1 := ⟨n - 1, by omega⟩
    show bk_Re_linkUp_21_o _ _ (bk_Re_linkUp_21 _ _ n) s a b _ _ = _
    unfold bk_Re_linkUp_21_o bk_Re_linkUp_90
    have e : Int32.ofNat 0 - 1 < 0 := by decide
    have z1 : a + (lkS s w j 0 k).1 = a := Int64.add_zero a
    have z2 : b + (lkS s w j 0 k).2 = b := Int64.add_zero b
    rw [if_pos e, pi_inR (show j < 5 by omega) (by omega), ct_gd_t, ob_id, pi_cl (by omega), z1, z2]
  | succ r ih =>
    intro n k a b hj h5 hk hn
    obtain ⟨n, rfl⟩ : ∃ z, n = z + 1 := ⟨n - 1, by omega⟩
    show bk_Re_linkUp_21_o _ _ (bk_Re_linkUp_21 _ _ n) s a b _ _ = _
    unfold bk_Re_linkUp_21_o
    have e : ¬ Int32.ofNat r < 0 := fun q => by rw [pi_lt32, pi_of (by omega), l0] at q; omega
    rw [pi_sub1 (by omega), Nat.add_sub_cancel, if_neg e]
    by_cases c : w ≤ k
    · have z : lkS s w j (r + 1) k = (0, 0) := lkS_end c _
      unfold bk_Re_linkUp_90
      rw [if_pos ((pi_le (by omega) (by omega)).mpr c), z, pi_inR (show j < 5 by omega) (by omega), ct_gd_t, ob_id, pi_cl (by omega), Int64.add_zero, Int64.add_zero]
    · have nc : ¬ Int32.ofNat w ≤ Int32.ofNat k := fun q => c ((pi_le (by omega) (by omega)).mp q)
      have em : Int32.ofNat r + (-1) = Int32.ofNat r - 1 := (Int32.sub_eq_add_neg _ _).symm
      rw [if_neg nc, lk_takes (by omega), ct_ob_s]
      unfold bk_Re_linkUp_84
      by_cases t1 : tk s r j = true
      · have e2 : lkS s w j (r + 1) k = ((cs_R s r (j + 1)).toInt64 + (lkS s w j r (k + 1)).1, (cs_R s r j).toInt64 + (lkS s w j r (k + 1)).2) := if_pos ⟨by omega, t1⟩
        rw [if_pos t1, if_neg pf_one0, pi_inR (show r < 6 by omega) (by omega), ct_gd_t, pi_succ, pi_inR (show j + 1 < 6 by omega) (by omega), ct_gd_t, ct_nm_eq, ct_gd_t, pi_inR (show j < 6 by omega) (by omega), ct_gd_t, ct_nm_eq, em, pi_succ, pi_cl (show r < 2147483648 by omega), pi_cl (show j < 2147483648 by omega), pi_cl (show j + 1 < 2147483648 by omega), ih n (k + 1) _ _ (by omega) (by omega) (by omega) (by omega), e2, Int64.add_assoc, Int64.add_assoc]
      · have e2 : lkS s w j (r + 1) k = lkS s w j r k := if_neg (fun q => t1 q.2)
        rw [if_neg t1, if_pos rfl, em, ih n k _ _ (by omega) (by omega) (by omega) (by omega), e2]
