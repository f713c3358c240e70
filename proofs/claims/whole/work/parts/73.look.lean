/-! the reference's look: its cells become the class's; diagonal -/
def mC (t : MS) (c : Nat → Int32) : MS := (t.1, t.2.1, va_up t.2.2.1 8 c, t.2.2.2)
theorem mC_put {t : MS} {c : Nat → Int32} {i : Nat} {v : Int32} : ms_A' (mC t c) 8 i v = mC t (upd c i v) := by
  show (t.1, t.2.1, va_up (va_up t.2.2.1 8 c) 8 (upd (va_up t.2.2.1 8 c 8) i v), t.2.2.2) = (t.1, t.2.1, va_up t.2.2.1 8 (upd c i v), t.2.2.2)
  rw [va_up_up, va_up_self]
theorem Inv.mC {s : CS} {t : MS} {c : Nat → Int32} (h : Inv s t) : Inv s (mC t c) := h
def nZ (s : CS) : Nat := (cs_I s 4).toNatClampNeg
theorem nZ_eq {s : CS} (hr : iR s) : cs_I s 4 = Int32.ofNat (nZ s) ∧ 1 ≤ nZ s ∧ nZ s ≤ 6 ∧ (nZ s : Int) = (cs_I s 4).toInt := by
  have q := hr.2.2.2.2.1
  obtain ⟨k, e1, e2, e3⟩ := pi_ex (show 0 ≤ (cs_I s 4).toInt by omega)
  have e4 : nZ s = k := by unfold nZ; rw [e1, pi_cl e2]
  exact ⟨by rw [e4]; exact e1, by omega, by omega, by omega⟩
theorem pi_add (a b : Nat) : Int32.ofNat a + Int32.ofNat b = Int32.ofNat (a + b) := (Int32.ofNat_add a b).symm
theorem pi_6 (a b : Nat) : (6 : Int32) * Int32.ofNat a + Int32.ofNat b = Int32.ofNat (6 * a + b) := by
  rw [Int32.ofNat_add, Int32.ofNat_mul]
  rfl
theorem lk_in {s : CS} {t : MS} (h : Inv s t) (k2 : MS → Int32 → Option MS) {i : Nat} (hi : i < nZ s) : ∀ (d n j : Nat) (c : Nat → Int32), i + j + d = nZ s → d < n → ∃ c', bk_Mo_look_12 k2 n (mC t c) (Int32.ofNat i) (Int32.ofNat j) = k2 (mC t c') (Int32.ofNat (i + 1)) ∧ ∀ a, c' a = if 6 * i + j ≤ a ∧ a < 5 * i + nZ s then cellS s i (a - 6 * i) else c a := by
  obtain ⟨z1, z2, z3, z4⟩ := nZ_eq h.2.1
  have t5 : ∀ c, ms_I (mC t c) 5 = Int32.ofNat (nZ s) := fun c => h.1.2.2.2.2.1.symm.trans z1
  intro d
  induction d with
  | zero =>
    intro n j c hj hn
    obtain ⟨n, rfl⟩ : ∃ z, n = z + 1 := ⟨n - 1, by omega⟩
    refine ⟨c, ?_, fun a => by rw [if_neg (by omega)]⟩
    show bk_Mo_look_12_o k2 (bk_Mo_look_12 k2 n) (mC t c) (Int32.ofNat i) (Int32.ofNat j) = _
    unfold bk_Mo_look_12_o
    rw [t5, pi_add, if_pos ((pi_le (by omega) (by omega)).mpr (by omega)), pi_succ]
  | succ d ih =>
    intro n j c hj hn
    obtain ⟨n, rfl⟩ : ∃ z, n = z + 1 := ⟨n - 1, by omega⟩
    obtain ⟨c', h1, h2⟩ := ih n (j + 1) (upd c (6 * i + j) (cellS s i j)) (by omega) (by omega)
    refine ⟨c', ?_, fun a => ?_⟩
    · show bk_Mo_look_12_o k2 (bk_Mo_look_12 k2 n) (mC t c) (Int32.ofNat i) (Int32.ofNat j) = _
      unfold bk_Mo_look_12_o
      have n1 : ¬ Int32.ofNat (nZ s) ≤ Int32.ofNat (i + j) := fun q => by have := (pi_le (by omega) (by omega)).mp q; omega
      rw [t5, pi_add, if_neg n1, so_sum (h.mC (c := c)) (show i + j < nZ s by omega), ct_ob_s, pi_6, pi_inR (show 6 * i + j < 36 by omega) (by omega), ct_gd_t, ct_nm_eq, pi_cl (by omega), mC_put, pi_succ]
      exact h1
    · rw [h2]
      unfold upd
      by_cases e : a = 6 * i + j
      · rw [if_neg (by omega), if_pos e, if_pos (by omega), e, show 6 * i + j - 6 * i = j by omega]
      · rw [if_neg e]
        by_cases c2 : 6 * i + (j + 1) ≤ a ∧ a < 5 * i + nZ s
        · rw [if_pos c2, if_pos (by omega)]
        · rw [if_neg c2, if_neg (by omega)]
theorem lk_out {s : CS} {t : MS} (h : Inv s t) : ∀ (d n i : Nat) (c : Nat → Int32), i + d = nZ s → d < n → ∃ c', bk_Mo_look_2 n (mC t c) (Int32.ofNat i) = some (ms_I' (mC t c') 8 0) ∧ (∀ a b, i ≤ a → a + b < nZ s → c' (6 * a + b) = cellS s a b) ∧ ∀ a, a < 6 * i → c' a = c a := by
  obtain ⟨z1, z2, z3, z4⟩ := nZ_eq h.2.1
  have t5 : ∀ c, ms_I (mC t c) 5 = Int32.ofNat (nZ s) := fun c => h.1.2.2.2.2.1.symm.trans z1
  intro d
  induction d with
  | zero =>
    intro n i c hj hn
    obtain ⟨n, rfl⟩ : ∃ z, n = z + 1 := ⟨n - 1, by omega⟩
    refine ⟨c, ?_, fun a b ha hb => by omega, fun a _ => rfl⟩
    show bk_Mo_look_2_o (bk_Mo_look_2 n) (mC t c) (Int32.ofNat i) = _
    unfold bk_Mo_look_2_o
    rw [t5, if_pos ((pi_le (by omega) (by omega)).mpr (by omega)), ct_nm_eq]
  | succ d ih =>
    intro n i c hj hn
    obtain ⟨n, rfl⟩ : ∃ z, n = z + 1 := ⟨n - 1, by omega⟩
    obtain ⟨c1, h1, h2⟩ := lk_in h (bk_Mo_look_2 n) (show i < nZ s by omega) (nZ s - i) 200 0 c (by omega) (by omega)
    obtain ⟨c2, h3, h4, h5⟩ := ih n (i + 1) c1 (by omega) (by omega)
    refine ⟨c2, ?_, fun a b ha hb => ?_, fun a ha => ?_⟩
    · show bk_Mo_look_2_o (bk_Mo_look_2 n) (mC t c) (Int32.ofNat i) = _
      unfold bk_Mo_look_2_o
      have n1 : ¬ Int32.ofNat (nZ s) ≤ Int32.ofNat i := fun q => by have := (pi_le (by omega) (by omega)).mp q; omega
      rw [t5, if_neg n1]
      exact h1.trans h3
    · by_cases e : a = i
      · rw [h5 _ (by omega), h2, if_pos (by omega), e, show 6 * i + b - 6 * i = b by omega]
      · exact h4 a b (by omega) hb
    · rw [h5 a (by omega), h2, if_neg (by omega)]
/-- what holds of the reference once it has looked -/
def Lk (s : CS) (t : MS) : Prop := Inv s t ∧ ∀ i j : Nat, i + j < nZ s → ms_A t 8 (6 * i + j) = cs_R s i j
theorem lk_look {s : CS} {t : MS} (h : Inv s t) : ∃ t', fn_Mo_look t = some t' ∧ Lk s t' ∧ ms_I t' 0 = ms_I t 0 ∧ ms_I t' 8 = 0 := by
  obtain ⟨z1, z2, z3, z4⟩ := nZ_eq h.2.1
  have e : t = mC t (ms_A t 8) := by
    show t = (t.1, t.2.1, va_up t.2.2.1 8 (t.2.2.1 8), t.2.2.2)
    rw [va_up_same]
  obtain ⟨c, h1, h2, h3⟩ := lk_out h (nZ s) 200 0 (ms_A t 8) (by omega) (by omega)
  refine ⟨ms_I' (mC t c) 8 0, ?_, ⟨h, fun i j hij => ?_⟩, rfl, rfl⟩
  · unfold fn_Mo_look
    rw [← e] at h1
    exact h1
  · exact (h2 i j (by omega) hij).trans (h.2.2.2.2.2.2 i j (by omega)).symm
