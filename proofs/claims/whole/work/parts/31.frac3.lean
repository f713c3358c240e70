theorem pf_lim : (4611686018427387904 : Int64).toInt = 4611686018427387904 := rfl
theorem pf_nlim : (-4611686018427387904 : Int64).toInt = -4611686018427387904 := rfl
/-- the two sides of the sum's check -/
theorem pf_chk1 {p q : Int64} (hp : p.toInt ≤ 0) (hp2 : -4611686018427387904 ≤ p.toInt) : 0 ≤ lg_cmp q ((-4611686018427387904) - p) ↔ -4611686018427387904 ≤ p.toInt + q.toInt := by
  rw [lg_cmp_ge, Int64.le_iff_toInt_le, pa_sub (by rw [pf_nlim]; omega) (by rw [pf_nlim]; omega), pf_nlim]
  omega
theorem pf_chk2 {p q : Int64} (hp : 0 < p.toInt) (hp2 : p.toInt ≤ 4611686018427387904) : lg_cmp q (4611686018427387904 - p) ≤ 0 ↔ p.toInt + q.toInt ≤ 4611686018427387904 := by
  rw [lg_cmp_le, Int64.le_iff_toInt_le, pa_sub (by rw [pf_lim]; omega) (by rw [pf_lim]; omega), pf_lim]
  omega
theorem pf_le0 {p : Int64} : lg_cmp p 0 ≤ 0 ↔ p.toInt ≤ 0 := by
  rw [lg_cmp_le, Int64.le_iff_toInt_le]
  exact Iff.rfl
theorem pf_ge0 {p : Int64} : 0 ≤ lg_cmp p 0 ↔ 0 ≤ p.toInt := by
  rw [lg_cmp_ge, Int64.le_iff_toInt_le]
  exact Iff.rfl
/-- the sum, reduced -/
theorem pf_red {n m : Int64} (hn : n.toInt.natAbs ≤ 4611686018427387904) (hm : 0 < m.toInt) (hm2 : m.toInt ≤ 4611686018427387904) :
    sp_ok (n / pf_g n.toInt m.toInt).toInt (m / pf_g n.toInt m.toInt).toInt ∧ (n / pf_g n.toInt m.toInt).toInt = n.toInt / (Int.gcd n.toInt m.toInt : Int) ∧ (m / pf_g n.toInt m.toInt).toInt = m.toInt / (Int.gcd n.toInt m.toInt : Int) ∧ ct_gzL (pf_g n.toInt m.toInt) = true := by
  obtain ⟨g1, g2, g3, g4⟩ := pf_T hn hm hm2
  have l3 := pf_pos hm (Int.gcd_dvd_right n.toInt m.toInt)
  have l5 := pf_le (Int.gcd n.toInt m.toInt : Int) (a := m.toInt) (by omega)
  refine ⟨⟨by rw [g3]; exact pf_le _ hn, by rw [g4]; exact l3, by rw [g4]; omega⟩, g3, g4, pf_gz (by omega)⟩
theorem pf_plus {s : CS} {f o : Nat} (hne : o ≠ f) (ht : fr_ok (cs_F s f)) (hu : fr_ok (cs_F s o)) : ∃ t, fn_Fr_plus s f o = some (cs_F' s f t) ∧ fr_ok t ∧ fv t = av_plus (fv (cs_F s f)) (fv (cs_F s o)) := by
  have s1 := pf_st ht
  have s2 := pf_st hu
  have o1 := pf_fine ht
  have o2 := pf_fine hu
  obtain ⟨a, b, st, hF⟩ : ∃ a b st, cs_F s f = (a, b, st) := ⟨_, _, _, rfl⟩
  obtain ⟨c, d, su, hO⟩ : ∃ c d su, cs_F s o = (c, d, su) := ⟨_, _, _, rfl⟩
  have e1 : ∀ v, cs_F2' s f v = cs_F' s f (a, b, v) := fun v => by unfold cs_F2'; rw [hF]
  unfold fn_Fr_plus
  rw [ct_nm_eq, e1]
  rw [hF] at s1 o1 ⊢
  rw [hO] at s2 o2 ⊢
  dsimp only at s1 s2 o1 o2 ⊢
  by_cases fine : st = 0 ∧ su = 0
  · obtain ⟨rfl, rfl⟩ := fine
    obtain ⟨a1, b1, b2⟩ := o1 rfl
    obtain ⟨c1, d1, d2⟩ := o2 rfl
    have m0 : ct_mxI 0 0 = 0 := rfl
    have hf1 : cs_F (cs_F' s f (a, b, 0)) f = (a, b, 0) := cs_F_self
    have ho1 : cs_F (cs_F' s f (a, b, 0)) o = (c, d, 0) := by rw [cs_F_ne hne, hO]
    obtain ⟨g1, g2, g3, g4⟩ := pf_T (a := b) (d := d) (by omega) d1 d2
    rw [m0, hf1, ho1, if_pos rfl]
    dsimp only
    rw [pf_divisor (x := b) (y := d) (by omega) (by omega) (Or.inr (by omega)), ct_ob_s]
    generalize hG : pf_g b.toInt d.toInt = G at *
    have zG : ct_gzL G = true := pf_gz (by omega)
    rw [zG, ct_gd_t, ct_nm_eq, ct_gd_t, ct_nm_eq]
    have l3 := pf_pos b1 (Int.gcd_dvd_left b.toInt d.toInt)
    have l4 := pf_pos d1 (Int.gcd_dvd_right b.toInt d.toInt)
    have l5 := pf_le (Int.gcd b.toInt d.toInt : Int) (a := b.toInt) (by omega)
    have l6 := pf_le (Int.gcd b.toInt d.toInt : Int) (a := d.toInt) (by omega)
    rw [fv_0, fv_0]
    have hsp : av_plus (0, a.toInt, b.toInt) (0, c.toInt, d.toInt) = match sp_plus a.toInt b.toInt c.toInt d.toInt with
      | some q => (0, q.1, q.2)
      | none => (1, 0, 0) := rfl
    rw [hsp]
    have long : ∀ z : Option CS, z = some (cs_F' s f (a, b, 1)) → sp_plus a.toInt b.toInt c.toInt d.toInt = none → ∃ t, z = some (cs_F' s f t) ∧ fr_ok t ∧ fv t = match sp_plus a.toInt b.toInt c.toInt d.toInt with
      | some q => (0, q.1, q.2)
      | none => (1, 0, 0) := by
      intro z hz hn
      rw [hn]
      exact ⟨_, hz, Or.inr (Or.inl rfl), rfl⟩
    have j87 : bk_Fr_plus_87 f o (cs_F' s f (a, b, 0)) = some (cs_F' s f (a, b, 1)) := by
      unfold bk_Fr_plus_87
      rw [ct_nm_eq, cs_F2_at]
    have j145 : bk_Fr_plus_145 f o (cs_F' s f (a, b, 0)) = some (cs_F' s f (a, b, 1)) := by
      unfold bk_Fr_plus_145
      rw [ct_nm_eq, cs_F2_at]
    rw [pf_fits (x := b) (by omega) (by rw [g4]; omega), ct_ob_s, g4, j87]
    have hm : 0 < b.toInt * (d.toInt / (Int.gcd b.toInt d.toInt : Int)) := Int.mul_pos b1 l4
    unfold pf_b
    by_cases c1' : (b.toInt * (d.toInt / (Int.gcd b.toInt d.toInt : Int))).natAbs ≤ 4611686018427387904
    · rw [if_pos c1', if_neg pf_one0, pf_fits (x := a) (by omega) (by rw [g4]; omega), ct_ob_s, g4]
      unfold pf_b
      by_cases c2 : (a.toInt * (d.toInt / (Int.gcd b.toInt d.toInt : Int))).natAbs ≤ 4611686018427387904
      · rw [if_pos c2, if_neg pf_one0, pf_fits (x := c) (by omega) (by rw [g3]; omega), ct_ob_s, g3]
        unfold pf_b
        by_cases c3 : (c.toInt * (b.toInt / (Int.gcd b.toInt d.toInt : Int))).natAbs ≤ 4611686018427387904
        · rw [if_pos c3, if_pos pf_one0, ct_nm_eq, ct_nm_eq]
          have ep : (a * (d / G)).toInt = a.toInt * (d.toInt / (Int.gcd b.toInt d.toInt : Int)) := by rw [pa_mul (by rw [g4]; omega) (by rw [g4]; omega), g4]
          have eq : (c * (b / G)).toInt = c.toInt * (b.toInt / (Int.gcd b.toInt d.toInt : Int)) := by rw [pa_mul (by rw [g3]; omega) (by rw [g3]; omega), g3]
          have em : (b * (d / G)).toInt = b.toInt * (d.toInt / (Int.gcd b.toInt d.toInt : Int)) := by rw [pa_mul (by rw [g4]; omega) (by rw [g4]; omega), g4]
          generalize hp' : a * (d / G) = P at *
          generalize hq' : c * (b / G) = N at *
          have go : (P.toInt + N.toInt).natAbs ≤ 4611686018427387904 → ∃ t, bk_Fr_plus_151 f o (cs_F' s f (a, b, 0)) (d / G) P N = some (cs_F' s f t) ∧ fr_ok t ∧ fv t = match sp_plus a.toInt b.toInt c.toInt d.toInt with
            | some q => (0, q.1, q.2)
            | none => (1, 0, 0) := by
            intro hs
            have es : (P + N).toInt = P.toInt + N.toInt := pa_add (by omega) (by omega)
            unfold bk_Fr_plus_151
            rw [hf1]
            dsimp only
            rw [ct_nm_eq]
            generalize hm' : b * (d / G) = M at *
            obtain ⟨r1, r2, r3, r4⟩ := pf_red (n := P + N) (m := M) (by rw [es]; exact hs) (by rw [em]; exact hm) (by rw [em]; omega)
            rw [pf_divisor (x := P + N) (y := M) (by rw [es]; omega) (by rw [em]; omega) (Or.inr (by rw [em]; omega)), ct_ob_s, r4, ct_gd_t, ct_nm_eq, cs_F0_at, ct_gd_t, ct_nm_eq, cs_F1_at]
            refine ⟨_, rfl, Or.inl ⟨rfl, r1⟩, ?_⟩
            rw [fv_0, r2, r3]
            unfold sp_plus
            rw [← ep, ← eq, ← em, if_pos ⟨by omega, by omega, by omega, hs⟩, es]
          by_cases c4 : (P.toInt + N.toInt).natAbs ≤ 4611686018427387904
          · by_cases c5 : P.toInt ≤ 0
            · rw [if_pos (pf_le0.mpr c5), if_pos ((pf_chk1 c5 (by omega)).mpr (by omega))]
              exact go c4
            · rw [if_neg (fun q => c5 (pf_le0.mp q)), if_pos ((pf_chk2 (by omega) (by omega)).mpr (by omega))]
              exact go c4
          · have hn : sp_plus a.toInt b.toInt c.toInt d.toInt = none := by
              unfold sp_plus
              rw [← ep, ← eq]
              exact if_neg (fun q => c4 q.2.2.2)
            by_cases c5 : P.toInt ≤ 0
            · rw [if_pos (pf_le0.mpr c5), if_neg (fun q => by have q := (pf_chk1 c5 (by omega)).mp q; omega)]
              exact long _ j145 hn
            · rw [if_neg (fun q => c5 (pf_le0.mp q)), if_neg (fun q => by have q := (pf_chk2 (by omega) (by omega)).mp q; omega)]
              exact long _ j145 hn
        · rw [if_neg c3, if_neg (fun q => q rfl)]
          exact long _ rfl (by unfold sp_plus; exact if_neg (fun q => c3 q.2.2.1))
      · rw [if_neg c2, if_pos rfl]
        exact long _ rfl (by unfold sp_plus; exact if_neg (fun q => c2 q.2.1))
    · rw [if_neg c1', if_pos rfl]
      exact long _ rfl (by unfold sp_plus; exact if_neg (fun q => c1' (by omega)))
  · obtain ⟨n1, n2, n3⟩ := pf_max (a := a) (b := b) (c := c) (d := d) s1 s2 fine sp_plus
    rw [cs_F_self, if_neg n1]
    exact ⟨_, rfl, n2, n3⟩
/-! the reference's number -/
def mv (s : MS) : AV := if ms_I s 8 = 0 then (0, (ms_L s 0).toInt, (ms_L s 1).toInt) else (1, 0, 0)
def mo_ok (s : MS) : Prop := (ms_I s 8 = 0 ∧ sp_ok (ms_L s 0).toInt (ms_L s 1).toInt) ∨ ms_I s 8 = 1
/-- all but x, y and tooLong as it was -/
def mo_eq (s t : MS) : Prop := t.2.2 = s.2.2 ∧ (∀ k, k ≠ 8 → ms_I t k = ms_I s k) ∧ ∀ k, k ≠ 0 → k ≠ 1 → ms_L t k = ms_L s k
theorem mo_eq.rf {s : MS} : mo_eq s s := ⟨rfl, fun _ _ => rfl, fun _ _ _ => rfl⟩
theorem mo_eq.tr {s t u : MS} (h1 : mo_eq s t) (h2 : mo_eq t u) : mo_eq s u := ⟨h2.1.trans h1.1, fun k hk => (h2.2.1 k hk).trans (h1.2.1 k hk), fun k a b => (h2.2.2 k a b).trans (h1.2.2 k a b)⟩
theorem ms_I_self {s : MS} {k : Nat} {v : Int32} : ms_I (ms_I' s k v) k = v := va_up_self _ _ _
theorem ms_I_ne {s : MS} {k j : Nat} {v : Int32} (h : j ≠ k) : ms_I (ms_I' s k v) j = ms_I s j := va_up_ne _ _ h
theorem ms_L_self {s : MS} {k : Nat} {v : Int64} : ms_L (ms_L' s k v) k = v := va_up_self _ _ _
theorem ms_L_ne {s : MS} {k j : Nat} {v : Int64} (h : j ≠ k) : ms_L (ms_L' s k v) j = ms_L s j := va_up_ne _ _ h
theorem mo_set (s : MS) (t : Int32) (x y : Int64) : fn_Mo_set s x y = some (ms_L' (ms_L' s 0 x) 1 y) := rfl
theorem mo_put {s : MS} {x y : Int64} : ms_L (ms_L' (ms_L' (ms_I' s 8 0) 0 x) 1 y) 0 = x ∧ ms_L (ms_L' (ms_L' (ms_I' s 8 0) 0 x) 1 y) 1 = y ∧ ms_I (ms_L' (ms_L' (ms_I' s 8 0) 0 x) 1 y) 8 = 0 ∧ mo_eq s (ms_L' (ms_L' (ms_I' s 8 0) 0 x) 1 y) :=
  ⟨(ms_L_ne (by decide)).trans ms_L_self, ms_L_self, va_up_self s.1 8 (0 : Int32), rfl, fun _ hk => va_up_ne s.1 (0 : Int32) hk, fun _ h0 h1 => (ms_L_ne h1).trans (ms_L_ne h0)⟩
theorem mo_long {s : MS} : mo_ok (ms_I' s 8 1) ∧ mv (ms_I' s 8 1) = (1, 0, 0) ∧ mo_eq s (ms_I' s 8 1) := by
  refine ⟨Or.inr ms_I_self, ?_, rfl, fun _ hk => ms_I_ne hk, fun _ _ _ => rfl⟩
  unfold mv
  rw [ms_I_self]
  rfl
theorem pm_times {s : MS} {c d : Int64} (hs : mo_ok s) (hcd : sp_ok c.toInt d.toInt) : ∃ t, fn_Mo_times s c d = some t ∧ mo_ok t ∧ mv t = av_times (mv s) (0, c.toInt, d.toInt) ∧ mo_eq s t := by
  unfold fn_Mo_times
  by_cases h0 : ms_I s 8 = 0
  · rw [if_pos h0]
    have o1 : sp_ok (ms_L s 0).toInt (ms_L s 1).toInt := by
      rcases hs with h | h
      · exact h.2
      · rw [h0] at h; exact absurd h (by decide)
    have hv : mv s = (0, (ms_L s 0).toInt, (ms_L s 1).toInt) := by unfold mv; rw [if_pos h0]
    rw [hv]
    generalize ms_L s 0 = a at *
    generalize ms_L s 1 = b at *
    obtain ⟨a1, b1, b2⟩ := o1
    obtain ⟨c1, d1, d2⟩ := hcd
    obtain ⟨z1, e1, v1⟩ := pf_size (x := a) (by omega)
    obtain ⟨z2, e2, v2⟩ := pf_size (x := c) (by omega)
    have eg1 : pf_g z1.toInt d.toInt = pf_g a.toInt d.toInt := by unfold pf_g; rw [v1]; rfl
    have eg2 : pf_g z2.toInt b.toInt = pf_g c.toInt b.toInt := by unfold pf_g; rw [v2]; rfl
    rw [e1, ct_ob_s, pf_mdivisor (x := z1) (y := d) (by omega) (by omega), ct_ob_s, e2, ct_ob_s, pf_mdivisor (x := z2) (y := b) (by omega) (by omega), ct_ob_s, eg1, eg2]
    obtain ⟨g1, g2, g3, g4⟩ := pf_T a1 d1 d2
    obtain ⟨k1, k2, k3, k4⟩ := pf_T c1 b1 b2
    generalize hG : pf_g a.toInt d.toInt = G at *
    generalize hK : pf_g c.toInt b.toInt = K at *
    have zG : ct_gzL G = true := pf_gz (by omega)
    have zK : ct_gzL K = true := pf_gz (by omega)
    rw [zG, ct_gd_t, ct_nm_eq, zK, ct_gd_t, ct_nm_eq, ct_gd_t]
    have l1 := pf_le (Int.gcd a.toInt d.toInt : Int) a1
    have l2 := pf_le (Int.gcd c.toInt b.toInt : Int) c1
    have l3 := pf_pos b1 (Int.gcd_dvd_right c.toInt b.toInt)
    have l4 := pf_pos d1 (Int.gcd_dvd_right a.toInt d.toInt)
    have l5 := pf_le (Int.gcd c.toInt b.toInt : Int) (a := b.toInt) (by omega)
    have l6 := pf_le (Int.gcd a.toInt d.toInt : Int) (a := d.toInt) (by omega)
    rw [pf_short (by rw [g3]; omega) (by rw [k3]; omega), ct_ob_s, g3, k3]
    have hsp : av_times (0, a.toInt, b.toInt) (0, c.toInt, d.toInt) = match sp_times a.toInt b.toInt c.toInt d.toInt with
      | some q => (0, q.1, q.2)
      | none => (1, 0, 0) := rfl
    rw [hsp]
    have j1 : bk_Mo_times_88 c d s 1 G K (a / G) (b / K) = some (ms_I' s 8 1) := by
      unfold bk_Mo_times_88
      rw [show ct_isB 1 = true from rfl, ct_gd_t, ct_nm_eq, ms_I_self, if_pos pf_one0]
    rw [j1]
    unfold sp_times pf_b
    by_cases c9 : (a.toInt / (Int.gcd a.toInt d.toInt : Int) * (c.toInt / (Int.gcd c.toInt b.toInt : Int))).natAbs ≤ 4611686018427387904
    · rw [if_pos c9, if_neg pf_one0, ct_gd_t, pf_short (by rw [k4]; omega) (by rw [g4]; omega), ct_ob_s, k4, g4]
      have hp : 0 < b.toInt / (Int.gcd c.toInt b.toInt : Int) * (d.toInt / (Int.gcd a.toInt d.toInt : Int)) := Int.mul_pos l3 l4
      unfold pf_b
      by_cases c8 : b.toInt / (Int.gcd c.toInt b.toInt : Int) * (d.toInt / (Int.gcd a.toInt d.toInt : Int)) ≤ 4611686018427387904
      · rw [if_pos (show (b.toInt / (Int.gcd c.toInt b.toInt : Int) * (d.toInt / (Int.gcd a.toInt d.toInt : Int))).natAbs ≤ 4611686018427387904 by omega), if_pos pf_one0, if_pos ⟨c9, c8⟩]
        have e2 : (a / G * (c / K)).toInt = a.toInt / (Int.gcd a.toInt d.toInt : Int) * (c.toInt / (Int.gcd c.toInt b.toInt : Int)) := by rw [pa_mul (by rw [g3, k3]; omega) (by rw [g3, k3]; omega), g3, k3]
        have e3 : (b / K * (d / G)).toInt = b.toInt / (Int.gcd c.toInt b.toInt : Int) * (d.toInt / (Int.gcd a.toInt d.toInt : Int)) := by rw [pa_mul (by rw [g4, k4]; omega) (by rw [g4, k4]; omega), g4, k4]
        unfold bk_Mo_times_88
        rw [show ct_isB 0 = true from rfl, ct_gd_t, ct_nm_eq, ms_I_self, if_neg (fun q => q rfl), zK, zG, ct_gd_t, ct_gd_t, mo_set _ 0, ct_ob_s]
        obtain ⟨p1, p2, p3, p4⟩ := mo_put (s := s) (x := a / G * (c / K)) (y := b / K * (d / G))
        refine ⟨_, rfl, Or.inl ⟨p3, ?_⟩, ?_, p4⟩
        · rw [p1, p2, e2, e3]
          exact ⟨c9, hp, c8⟩
        · unfold mv
          rw [if_pos p3, p1, p2, e2, e3]
      · rw [if_neg (show ¬ (b.toInt / (Int.gcd c.toInt b.toInt : Int) * (d.toInt / (Int.gcd a.toInt d.toInt : Int))).natAbs ≤ 4611686018427387904 by omega), if_neg (fun q => q rfl), if_neg (fun q => c8 q.2)]
        exact ⟨_, rfl, mo_long⟩
    · rw [if_neg c9, if_pos rfl, if_neg (fun q => c9 q.1)]
      exact ⟨_, rfl, mo_long⟩
  · rw [if_neg h0]
    refine ⟨s, rfl, hs, ?_, mo_eq.rf⟩
    have hv : mv s = (1, 0, 0) := by unfold mv; rw [if_neg h0]
    rw [hv]
    rfl
