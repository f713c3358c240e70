/-! a quotient of two sums, on both sides -/
def wF (s : CS) (g : Nat → Int64 × Int64 × Int32) : CS := (s.1, s.2.1, s.2.2.1, s.2.2.2.1, g)
theorem wF_put {s : CS} {g : Nat → Int64 × Int64 × Int32} {k : Nat} {u : Int64 × Int64 × Int32} : cs_F' (wF s g) k u = wF s (va_up g k u) := rfl
theorem Inv.wF {s : CS} {t : MS} {g : Nat → Int64 × Int64 × Int32} (h : Inv s t) (hg : ∀ k, k < 3 → g k = cs_F s k) : Inv (wF s g) t :=
  ⟨h.1, h.2.1, h.2.2.1, h.2.2.2.1, fun k hk => ⟨(hg k hk).trans (h.2.2.2.2.1 k hk).1, (h.2.2.2.2.1 k hk).2⟩, h.2.2.2.2.2.1, h.2.2.2.2.2.2⟩
theorem F_put3 {s : CS} {f : Nat} {v w : Int64} {x : Int32} : cs_F2' (cs_F1' (cs_F0' s f v) f w) f x = cs_F' s f (v, w, x) := by
  have e1 : cs_F0' s f v = cs_F' s f (v, (cs_F s f).2.1, (cs_F s f).2.2) := rfl
  rw [e1, cs_F1_at, cs_F2_at]
theorem gcd_ab {a b : Int} : Int.gcd (a.natAbs : Int) (b.natAbs : Int) = Int.gcd a b := by simp [Int.gcd]
theorem pf_become {s : CS} {f : Nat} {o u : Int64} (ho : o.toInt.natAbs ≤ 4611686018427387904) (hu : u.toInt.natAbs ≤ 4611686018427387904) : ∃ x, fn_Fr_become s f o u = some (cs_F' s f x) ∧ fr_ok x ∧ fv x = av_quot o.toInt u.toInt := by
  by_cases h0 : u.toInt = 0
  · refine ⟨((cs_F s f).1, (cs_F s f).2.1, 2), ?_, Or.inr (Or.inr rfl), ?_⟩
    · unfold fn_Fr_become
      have c : ¬ ¬ lg_cmp u 0 = 0 := fun q => q ((pf_eq0 u).mpr h0)
      rw [if_neg c, ct_nm_eq]
      rfl
    · unfold av_quot
      rw [if_pos h0]
      rfl
  · by_cases h1 : 0 < u.toInt
    · obtain ⟨r1, r2, r3, r4⟩ := pf_red ho h1 (by omega)
      refine ⟨_, pf_become_pos ho h1 (by omega), Or.inl ⟨rfl, r1⟩, ?_⟩
      unfold av_quot
      rw [if_neg h0, if_neg (by omega), fv_0, r2, r3]
    · have g1 : (pf_g o.toInt u.toInt).toInt = Int.gcd o.toInt u.toInt := pf_g_int (by omega) (by omega)
      have g2 : 0 < Int.gcd o.toInt u.toInt := Int.gcd_pos_of_ne_zero_right _ h0
      have d1 : (Int.gcd o.toInt u.toInt : Int) ∣ o.toInt := Int.gcd_dvd_left _ _
      have d2 : (Int.gcd o.toInt u.toInt : Int) ∣ u.toInt := Int.gcd_dvd_right _ _
      have g3 : (-pf_g o.toInt u.toInt).toInt = -(Int.gcd o.toInt u.toInt : Int) := by rw [pa_neg (by omega), g1]
      have k1 : (o / -pf_g o.toInt u.toInt).toInt = -(o.toInt / (Int.gcd o.toInt u.toInt : Int)) := by
        rw [pa_ediv (by omega) (by rw [g3]; exact Int.neg_dvd.mpr d1), g3, Int.ediv_neg]
      have k2 : (u / -pf_g o.toInt u.toInt).toInt = -u.toInt / (Int.gcd o.toInt u.toInt : Int) := by
        rw [pa_ediv (by omega) (by rw [g3]; exact Int.neg_dvd.mpr d2), g3, Int.ediv_neg, Int.neg_ediv_of_dvd d2]
      have l1 := pf_le (Int.gcd o.toInt u.toInt : Int) ho
      have l2 := pf_pos (b := -u.toInt) (by omega) (Int.dvd_neg.mpr d2)
      have l3 := pf_le (Int.gcd o.toInt u.toInt : Int) (a := -u.toInt) (by omega)
      refine ⟨(o / -pf_g o.toInt u.toInt, u / -pf_g o.toInt u.toInt, 0), ?_, Or.inl ⟨rfl, ?_, ?_, ?_⟩, ?_⟩
      · unfold fn_Fr_become bk_Fr_become_33
        have c1 : ¬ lg_cmp u 0 = 0 := fun q => h0 ((pf_eq0 u).mp q)
        have c2 : ¬ 0 ≤ lg_cmp u 0 := fun q => by have := pf_ge0.mp q; omega
        have zG : ct_gzL (-pf_g o.toInt u.toInt) = true := pf_gz (by omega)
        rw [if_pos c1, pf_divisor (by omega) (by omega) (Or.inr h0), ct_ob_s, if_neg c2, zG, ct_gd_t, ct_nm_eq, ct_gd_t, ct_nm_eq, ct_nm_eq, F_put3]
      · show (o / -pf_g o.toInt u.toInt).toInt.natAbs ≤ _
        rw [k1]; omega
      · show 0 < (u / -pf_g o.toInt u.toInt).toInt
        rw [k2]; exact l2
      · show (u / -pf_g o.toInt u.toInt).toInt ≤ _
        rw [k2]; omega
      · unfold av_quot
        rw [if_neg h0, if_pos (by omega), fv_0, k1, k2]
/-- the end of the reference's find -/
def fEnd (m j : Int32) (t : MS) (n : Int32) (a b : Int64) : Option (Int32 × MS) := bk_Mo_find_21_o m j (fun _ _ _ _ _ _ => none) t n a b 0 (-1)
theorem fEnd_eq {m j : Int32} {k21 : MS → Int32 → Int64 → Int64 → Int32 → Int32 → Option (Int32 × MS)} {t : MS} {n : Int32} {a b : Int64} {k i : Int32} (h : i < 0) : bk_Mo_find_21_o m j k21 t n a b k i = fEnd m j t n a b := by
  unfold fEnd bk_Mo_find_21_o
  have e : (-1 : Int32) < 0 := by decide
  rw [if_pos h, if_pos e]
theorem fi_end {m j n : Int32} {t : MS} {a b : Int64} (ha : a.toInt.natAbs ≤ 4611686018427387904) (hb : b.toInt.natAbs ≤ 4611686018427387904) : (b.toInt = 0 → fEnd m j t n a b = some (0, t)) ∧ (b.toInt ≠ 0 → ∃ x y, fEnd m j t n a b = some (1, ms_L' (ms_L' t 4 x) 5 y) ∧ sp_ok x.toInt y.toInt ∧ (0, x.toInt, y.toInt) = av_quot a.toInt b.toInt) := by
  have em : (-1 : Int32) < 0 := by decide
  refine ⟨fun h0 => ?_, fun h0 => ?_⟩
  · unfold fEnd bk_Mo_find_21_o
    have c : ¬ ¬ lg_cmp b 0 = 0 := fun q => q ((pf_eq0 b).mpr h0)
    rw [if_pos em, if_neg c]
  · have c1 : ¬ lg_cmp b 0 = 0 := fun q => h0 ((pf_eq0 b).mp q)
    obtain ⟨za, za1, za2⟩ := pf_size (x := a) (by omega)
    obtain ⟨zb, zb1, zb2⟩ := pf_size (x := b) (by omega)
    have gg : pf_g za.toInt zb.toInt = pf_g a.toInt b.toInt := by unfold pf_g; rw [za2, zb2, gcd_ab]
    have g1 : (pf_g a.toInt b.toInt).toInt = Int.gcd a.toInt b.toInt := pf_g_int (by omega) (by omega)
    have g2 : 0 < Int.gcd a.toInt b.toInt := Int.gcd_pos_of_ne_zero_right _ h0
    have d1 : (Int.gcd a.toInt b.toInt : Int) ∣ a.toInt := Int.gcd_dvd_left _ _
    have d2 : (Int.gcd a.toInt b.toInt : Int) ∣ b.toInt := Int.gcd_dvd_right _ _
    have d3 : (Int.gcd a.toInt b.toInt : Int) ∣ zb.toInt := by rw [zb2]; exact Int.dvd_natAbs.mpr d2
    have zG : ct_gzL (pf_g a.toInt b.toInt) = true := pf_gz (by omega)
    have k2 : (zb / pf_g a.toInt b.toInt).toInt = zb.toInt / (Int.gcd a.toInt b.toInt : Int) := by
      rw [pa_ediv (by omega) (by rw [g1]; exact d3), g1]
    have l2 := pf_pos (b := zb.toInt) (by omega) d3
    have l3 := pf_le (Int.gcd a.toInt b.toInt : Int) (a := zb.toInt) (by omega)
    have l1 := pf_le (Int.gcd a.toInt b.toInt : Int) ha
    unfold fEnd bk_Mo_find_21_o bk_Mo_find_147
    rw [if_pos em, if_pos c1, za1, ct_ob_s, zb1, ct_ob_s, pf_mdivisor (by omega) (by omega), ct_ob_s, gg, zG]
    by_cases h1 : 0 < b.toInt
    · have c2 : 0 ≤ lg_cmp b 0 := pf_ge0.mpr (by omega)
      have k1 : (a / pf_g a.toInt b.toInt).toInt = a.toInt / (Int.gcd a.toInt b.toInt : Int) := by
        rw [pa_ediv (by omega) (by rw [g1]; exact d1), g1]
      refine ⟨a / pf_g a.toInt b.toInt, zb / pf_g a.toInt b.toInt, ?_, ⟨by rw [k1]; exact l1, by rw [k2]; exact l2, by rw [k2]; omega⟩, ?_⟩
      · rw [if_pos c2, ct_gd_t, ct_nm_eq, ct_ob_s, ct_gd_t, ct_nm_eq]
      · unfold av_quot
        rw [if_neg h0, if_neg (by omega), k1, k2, show zb.toInt = b.toInt by omega]
    · have c2 : ¬ 0 ≤ lg_cmp b 0 := fun q => by have := pf_ge0.mp q; omega
      have n1 : (-a).toInt = -a.toInt := pa_neg (by omega)
      have k1 : (-a / pf_g a.toInt b.toInt).toInt = -(a.toInt / (Int.gcd a.toInt b.toInt : Int)) := by
        rw [pa_ediv (by omega) (by rw [g1, n1]; exact Int.dvd_neg.mpr d1), g1, n1, Int.neg_ediv_of_dvd d1]
      refine ⟨-a / pf_g a.toInt b.toInt, zb / pf_g a.toInt b.toInt, ?_, ⟨by rw [k1]; omega, by rw [k2]; exact l2, by rw [k2]; omega⟩, ?_⟩
      · rw [if_neg c2, ct_gd_t, ct_nm_eq, ct_ob_s, ct_gd_t, ct_nm_eq]
      · unfold av_quot
        rw [if_neg h0, if_pos (by omega), k1, k2, show zb.toInt = -b.toInt by omega]
