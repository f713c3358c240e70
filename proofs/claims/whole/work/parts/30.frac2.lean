/-! times and plus: class and reference, both as av_times and av_plus -/
theorem cs_F_self {s : CS} {k : Nat} {t : Int64 × Int64 × Int32} : cs_F (cs_F' s k t) k = t := va_up_self _ _ _
theorem cs_F_ne {s : CS} {k j : Nat} {t : Int64 × Int64 × Int32} (h : j ≠ k) : cs_F (cs_F' s k t) j = cs_F s j := va_up_ne _ _ h
theorem va_up_up {α : Type} (f : Nat → α) (k : Nat) (t u : α) : va_up (va_up f k t) k u = va_up f k u := by
  funext j
  by_cases h : j = k <;> simp [va_up, h]
theorem cs_F_twice {s : CS} {k : Nat} {t u : Int64 × Int64 × Int32} : cs_F' (cs_F' s k t) k u = cs_F' s k u := by
  show (s.1, s.2.1, s.2.2.1, s.2.2.2.1, va_up (va_up s.2.2.2.2 k t) k u) = (s.1, s.2.1, s.2.2.1, s.2.2.2.1, va_up s.2.2.2.2 k u)
  rw [va_up_up]
theorem cs_F0_at {s : CS} {k : Nat} {a b : Int64} {st : Int32} {v : Int64} : cs_F0' (cs_F' s k (a, b, st)) k v = cs_F' s k (v, b, st) := by
  unfold cs_F0'
  rw [cs_F_self, cs_F_twice]
theorem cs_F1_at {s : CS} {k : Nat} {a b : Int64} {st : Int32} {v : Int64} : cs_F1' (cs_F' s k (a, b, st)) k v = cs_F' s k (a, v, st) := by
  unfold cs_F1'
  rw [cs_F_self, cs_F_twice]
theorem cs_F2_at {s : CS} {k : Nat} {a b : Int64} {st v : Int32} : cs_F2' (cs_F' s k (a, b, st)) k v = cs_F' s k (a, b, v) := by
  unfold cs_F2'
  rw [cs_F_self, cs_F_twice]
theorem pf_T {a d : Int64} (ha : a.toInt.natAbs ≤ 4611686018427387904) (hd : 0 < d.toInt) (hd2 : d.toInt ≤ 4611686018427387904) :
    (pf_g a.toInt d.toInt).toInt = Int.gcd a.toInt d.toInt ∧ 0 < Int.gcd a.toInt d.toInt ∧ (a / pf_g a.toInt d.toInt).toInt = a.toInt / (Int.gcd a.toInt d.toInt : Int) ∧ (d / pf_g a.toInt d.toInt).toInt = d.toInt / (Int.gcd a.toInt d.toInt : Int) := by
  have h1 : (pf_g a.toInt d.toInt).toInt = Int.gcd a.toInt d.toInt := pf_g_int (by omega) (by omega)
  refine ⟨h1, Int.gcd_pos_of_ne_zero_right _ (by omega), ?_, ?_⟩
  · rw [pa_ediv (by omega) (by rw [h1]; exact Int.gcd_dvd_left _ _), h1]
  · rw [pa_ediv (by omega) (by rw [h1]; exact Int.gcd_dvd_right _ _), h1]
theorem pf_le {a : Int} (g : Int) (h : a.natAbs ≤ 4611686018427387904) : (a / g).natAbs ≤ 4611686018427387904 := Nat.le_trans (Int.natAbs_ediv_le_natAbs a g) h
theorem pf_pos {b : Int} {g : Nat} (hb : 0 < b) (hd : (g : Int) ∣ b) : 0 < b / (g : Int) := Int.ediv_pos_of_pos_of_dvd hb (Int.natCast_nonneg _) hd
theorem pf_st {t : Int64 × Int64 × Int32} (h : fr_ok t) : t.2.2 = 0 ∨ t.2.2 = 1 ∨ t.2.2 = 2 := by
  rcases h with h | h | h
  · exact Or.inl h.1
  · exact Or.inr (Or.inl h)
  · exact Or.inr (Or.inr h)
theorem pf_fine {t : Int64 × Int64 × Int32} (h : fr_ok t) (h0 : t.2.2 = 0) : sp_ok t.1.toInt t.2.1.toInt := by
  rcases h with h | h | h
  · exact h.2
  · rw [h0] at h; exact absurd h (by decide)
  · rw [h0] at h; exact absurd h (by decide)
theorem fv_0 {a b : Int64} : fv (a, b, 0) = (0, a.toInt, b.toInt) := rfl
theorem fv_1 {a b : Int64} : fv (a, b, 1) = (1, 0, 0) := rfl
theorem fv_2 {a b : Int64} : fv (a, b, 2) = (2, 0, 0) := rfl
/-- where one of the two isn't fine -/
theorem pf_max {a b c d : Int64} {st su : Int32} (h1 : st = 0 ∨ st = 1 ∨ st = 2) (h2 : su = 0 ∨ su = 1 ∨ su = 2) (hn : ¬ (st = 0 ∧ su = 0)) (f : Int → Int → Int → Int → Option (Int × Int)) : ct_mxI st su ≠ 0 ∧ fr_ok (a, b, ct_mxI st su) ∧ fv (a, b, ct_mxI st su) = av_op f (fv (a, b, st)) (fv (c, d, su)) := by
  rcases h1 with rfl | rfl | rfl <;> rcases h2 with rfl | rfl | rfl
  · exact absurd ⟨rfl, rfl⟩ hn
  · exact ⟨by decide, Or.inr (Or.inl rfl), rfl⟩
  · exact ⟨by decide, Or.inr (Or.inr rfl), rfl⟩
  · exact ⟨by decide, Or.inr (Or.inl rfl), rfl⟩
  · exact ⟨by decide, Or.inr (Or.inl rfl), rfl⟩
  · exact ⟨by decide, Or.inr (Or.inr rfl), rfl⟩
  · exact ⟨by decide, Or.inr (Or.inr rfl), rfl⟩
  · exact ⟨by decide, Or.inr (Or.inr rfl), rfl⟩
  · exact ⟨by decide, Or.inr (Or.inr rfl), rfl⟩
theorem pf_one0 : ¬ (1 : Int32) = 0 := by decide
theorem pf_times {s : CS} {f o : Nat} (ht : fr_ok (cs_F s f)) (hu : fr_ok (cs_F s o)) : ∃ t, fn_Fr_times s f o = some (cs_F' s f t) ∧ fr_ok t ∧ fv t = av_times (fv (cs_F s f)) (fv (cs_F s o)) := by
  have s1 := pf_st ht
  have s2 := pf_st hu
  have o1 := pf_fine ht
  have o2 := pf_fine hu
  obtain ⟨a, b, st, hF⟩ : ∃ a b st, cs_F s f = (a, b, st) := ⟨_, _, _, rfl⟩
  obtain ⟨c, d, su, hO⟩ : ∃ c d su, cs_F s o = (c, d, su) := ⟨_, _, _, rfl⟩
  have e1 : ∀ v, cs_F2' s f v = cs_F' s f (a, b, v) := fun v => by unfold cs_F2'; rw [hF]
  unfold fn_Fr_times
  rw [ct_nm_eq, e1]
  rw [hF] at s1 o1 ⊢
  rw [hO] at s2 o2 ⊢
  dsimp only at s1 s2 o1 o2 ⊢
  by_cases fine : st = 0 ∧ su = 0
  · obtain ⟨rfl, rfl⟩ := fine
    obtain ⟨a1, b1, b2⟩ := o1 rfl
    obtain ⟨c1, d1, d2⟩ := o2 rfl
    have m0 : ct_mxI 0 0 = 0 := rfl
    have hf1 : cs_F (cs_F' s f (a, b, 0)) f = (a, b, 0) := cs_F_self
    have ho1 : cs_F (cs_F' s f (a, b, 0)) o = (c, d, 0) := by
      by_cases e : o = f
      · subst e
        rw [cs_F_self, ← hF, hO]
      · rw [cs_F_ne e, hO]
    obtain ⟨g1, g2, g3, g4⟩ := pf_T a1 d1 d2
    obtain ⟨k1, k2, k3, k4⟩ := pf_T c1 b1 b2
    rw [m0, hf1, ho1, if_pos rfl]
    dsimp only
    rw [pf_divisor (x := a) (y := d) (by omega) (by omega) (Or.inr (by omega)), ct_ob_s, pf_divisor (x := c) (y := b) (by omega) (by omega) (Or.inr (by omega)), ct_ob_s]
    generalize hG : pf_g a.toInt d.toInt = G at *
    generalize hK : pf_g c.toInt b.toInt = K at *
    have zG : ct_gzL G = true := pf_gz (by omega)
    have zK : ct_gzL K = true := pf_gz (by omega)
    rw [zG, ct_gd_t, ct_nm_eq, zK, ct_gd_t, ct_nm_eq, ct_gd_t, ct_nm_eq, ct_gd_t, ct_nm_eq]
    have l1 := pf_le (Int.gcd a.toInt d.toInt : Int) a1
    have l2 := pf_le (Int.gcd c.toInt b.toInt : Int) c1
    have l3 := pf_pos b1 (Int.gcd_dvd_right c.toInt b.toInt)
    have l4 := pf_pos d1 (Int.gcd_dvd_right a.toInt d.toInt)
    have l5 := pf_le (Int.gcd c.toInt b.toInt : Int) (a := b.toInt) (by omega)
    have l6 := pf_le (Int.gcd a.toInt d.toInt : Int) (a := d.toInt) (by omega)
    rw [pf_fits (by rw [g3]; omega) (by rw [k3]; omega), ct_ob_s, g3, k3]
    rw [fv_0, fv_0]
    have hsp : av_times (0, a.toInt, b.toInt) (0, c.toInt, d.toInt) = match sp_times a.toInt b.toInt c.toInt d.toInt with
      | some q => (0, q.1, q.2)
      | none => (1, 0, 0) := rfl
    rw [hsp]
    unfold sp_times pf_b
    by_cases c9 : (a.toInt / (Int.gcd a.toInt d.toInt : Int) * (c.toInt / (Int.gcd c.toInt b.toInt : Int))).natAbs ≤ 4611686018427387904
    · rw [if_pos c9, if_neg pf_one0, pf_fits (by rw [k4]; omega) (by rw [g4]; omega), ct_ob_s, k4, g4]
      have hp : 0 < b.toInt / (Int.gcd c.toInt b.toInt : Int) * (d.toInt / (Int.gcd a.toInt d.toInt : Int)) := Int.mul_pos l3 l4
      by_cases c8 : b.toInt / (Int.gcd c.toInt b.toInt : Int) * (d.toInt / (Int.gcd a.toInt d.toInt : Int)) ≤ 4611686018427387904
      · unfold pf_b
        rw [if_pos (show (b.toInt / (Int.gcd c.toInt b.toInt : Int) * (d.toInt / (Int.gcd a.toInt d.toInt : Int))).natAbs ≤ 4611686018427387904 by omega), if_pos pf_one0, ct_nm_eq, ct_nm_eq, cs_F0_at, cs_F1_at, if_pos ⟨c9, c8⟩]
        have e2 : (a / G * (c / K)).toInt = a.toInt / (Int.gcd a.toInt d.toInt : Int) * (c.toInt / (Int.gcd c.toInt b.toInt : Int)) := by rw [pa_mul (by rw [g3, k3]; omega) (by rw [g3, k3]; omega), g3, k3]
        have e3 : (b / K * (d / G)).toInt = b.toInt / (Int.gcd c.toInt b.toInt : Int) * (d.toInt / (Int.gcd a.toInt d.toInt : Int)) := by rw [pa_mul (by rw [g4, k4]; omega) (by rw [g4, k4]; omega), g4, k4]
        refine ⟨(a / G * (c / K), b / K * (d / G), 0), rfl, Or.inl ⟨rfl, ?_⟩, ?_⟩
        · show sp_ok (a / G * (c / K)).toInt (b / K * (d / G)).toInt
          rw [e2, e3]
          exact ⟨c9, hp, c8⟩
        · rw [fv_0, e2, e3]
      · unfold pf_b
        rw [if_neg (show ¬ (b.toInt / (Int.gcd c.toInt b.toInt : Int) * (d.toInt / (Int.gcd a.toInt d.toInt : Int))).natAbs ≤ 4611686018427387904 by omega), if_neg (fun q => q rfl), if_neg (fun q => c8 q.2)]
        unfold bk_Fr_times_102
        rw [ct_nm_eq, cs_F2_at]
        exact ⟨_, rfl, Or.inr (Or.inl rfl), rfl⟩
    · rw [if_neg c9, if_pos rfl, if_neg (fun q => c9 q.1)]
      unfold bk_Fr_times_102
      rw [ct_nm_eq, cs_F2_at]
      exact ⟨_, rfl, Or.inr (Or.inl rfl), rfl⟩
  · obtain ⟨n1, n2, n3⟩ := pf_max (a := a) (b := b) (c := c) (d := d) s1 s2 fine sp_times
    rw [cs_F_self, if_neg n1]
    exact ⟨_, rfl, n2, n3⟩
