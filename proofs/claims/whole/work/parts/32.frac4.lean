theorem pm_plus {s : MS} {c d : Int64} (hs : mo_ok s) (hcd : sp_ok c.toInt d.toInt) : ∃ t, fn_Mo_plus s c d = some t ∧ mo_ok t ∧ mv t = av_plus (mv s) (0, c.toInt, d.toInt) ∧ mo_eq s t := by
  unfold fn_Mo_plus
  by_cases h0 : ms_I s 8 = 0
  · rw [if_pos h0]
    have o1 : sp_ok (ms_L s 0).toInt (ms_L s 1).toInt := by
      rcases hs with h | h
      · exact h.2
      · rw [h0] at h; exact absurd h (by decide)
    have hv : mv s = (0, (ms_L s 0).toInt, (ms_L s 1).toInt) := by unfold mv; rw [if_pos h0]
    rw [hv]
    obtain ⟨a, ha⟩ : ∃ a, ms_L s 0 = a := ⟨_, rfl⟩
    obtain ⟨b, hb⟩ : ∃ b, ms_L s 1 = b := ⟨_, rfl⟩
    have ha' : ∀ t, ms_L (ms_I' s 8 t) 0 = a := fun _ => ha
    have hb' : ∀ t, ms_L (ms_I' s 8 t) 1 = b := fun _ => hb
    rw [ha, hb] at o1 ⊢
    obtain ⟨a1, b1, b2⟩ := o1
    obtain ⟨c1, d1, d2⟩ := hcd
    rw [pf_mdivisor (x := b) (y := d) (by omega) (by omega), ct_ob_s]
    obtain ⟨g1, g2, g3, g4⟩ := pf_T (a := b) (d := d) (by omega) d1 d2
    generalize hG : pf_g b.toInt d.toInt = G at *
    have zG : ct_gzL G = true := pf_gz (by omega)
    have zb : ct_gzL b = true := pf_gz (by omega)
    have zd : ct_gzL d = true := pf_gz (by omega)
    rw [zG, ct_gd_t, ct_nm_eq]
    have l3 := pf_pos b1 (Int.gcd_dvd_left b.toInt d.toInt)
    have l4 := pf_pos d1 (Int.gcd_dvd_right b.toInt d.toInt)
    have l5 := pf_le (Int.gcd b.toInt d.toInt : Int) (a := b.toInt) (by omega)
    have l6 := pf_le (Int.gcd b.toInt d.toInt : Int) (a := d.toInt) (by omega)
    have hsp : av_plus (0, a.toInt, b.toInt) (0, c.toInt, d.toInt) = match sp_plus a.toInt b.toInt c.toInt d.toInt with
      | some q => (0, q.1, q.2)
      | none => (1, 0, 0) := rfl
    rw [hsp]
    have hlcm := sp_lcm b.toInt d.toInt
    have hm : 0 < b.toInt * (d.toInt / (Int.gcd b.toInt d.toInt : Int)) := Int.mul_pos b1 l4
    have long : ∀ z : Option MS, z = some (ms_I' s 8 1) → sp_plus a.toInt b.toInt c.toInt d.toInt = none → ∃ t, z = some t ∧ mo_ok t ∧ (mv t = match sp_plus a.toInt b.toInt c.toInt d.toInt with
      | some q => (0, q.1, q.2)
      | none => (1, 0, 0)) ∧ mo_eq s t := by
      intro z hz hn
      rw [hn]
      exact ⟨_, hz, mo_long⟩
    have tw : ∀ v : Int32, ms_I' (ms_I' s 8 0) 8 v = ms_I' s 8 v := fun v => by
      show (va_up (va_up s.1 8 0) 8 v, s.2) = (va_up s.1 8 v, s.2)
      rw [va_up_up]
    have j40 : bk_Mo_plus_40 c d s 1 (b / G) = some (ms_I' s 8 1) := by
      unfold bk_Mo_plus_40
      rw [show ct_isB 1 = true from rfl, ct_gd_t, ct_nm_eq, ms_I_self, if_neg pf_one0]
    rw [pf_short (x := b / G) (y := d) (by rw [g3]; omega) (by omega), ct_ob_s, g3, j40]
    have hcm : b.toInt / (Int.gcd b.toInt d.toInt : Int) * d.toInt = b.toInt * (d.toInt / (Int.gcd b.toInt d.toInt : Int)) := by rw [hlcm, Int.mul_comm]
    rw [hcm]
    unfold pf_b
    by_cases c1' : (b.toInt * (d.toInt / (Int.gcd b.toInt d.toInt : Int))).natAbs ≤ 4611686018427387904
    · rw [if_pos c1', if_pos pf_one0]
      have em : (b / G * d).toInt = b.toInt * (d.toInt / (Int.gcd b.toInt d.toInt : Int)) := by rw [pa_mul (by rw [g3, hcm]; omega) (by rw [g3, hcm]; omega), g3, hcm]
      have q1 : (b / G * d / b).toInt = d.toInt / (Int.gcd b.toInt d.toInt : Int) := by
        rw [pa_ediv (by rw [em]; omega) (by rw [em]; exact Int.dvd_mul_right _ _), em, Int.mul_ediv_cancel_left _ (by omega)]
      have q2 : (b / G * d / d).toInt = b.toInt / (Int.gcd b.toInt d.toInt : Int) := by
        rw [pa_ediv (by rw [em]; omega) (by rw [em, hlcm]; exact Int.dvd_mul_right _ _), em, hlcm, Int.mul_ediv_cancel_left _ (by omega)]
      unfold bk_Mo_plus_40
      rw [show ct_isB 0 = true from rfl, ct_gd_t, ct_nm_eq, ms_I_self, if_pos rfl, ct_nm_eq, hb', zb, ct_gd_t, ha']
      generalize hM : b / G * d = M at *
      have j93 : bk_Mo_plus_93 c d (ms_I' s 8 0) 1 M = some (ms_I' s 8 1) := by
        unfold bk_Mo_plus_93
        rw [show ct_isB 1 = true from rfl, ct_gd_t, ct_nm_eq, ms_I_self, if_neg pf_one0, tw]
      rw [pf_short (x := a) (y := M / b) (by omega) (by rw [q1]; omega), ct_ob_s, q1, j93]
      unfold pf_b
      by_cases c2 : (a.toInt * (d.toInt / (Int.gcd b.toInt d.toInt : Int))).natAbs ≤ 4611686018427387904
      · rw [if_pos c2, if_neg pf_one0, zd, ct_gd_t, pf_short (x := c) (y := M / d) (by omega) (by rw [q2]; omega), ct_ob_s, q2]
        unfold pf_b
        by_cases c3 : (c.toInt * (b.toInt / (Int.gcd b.toInt d.toInt : Int))).natAbs ≤ 4611686018427387904
        · rw [if_pos c3, if_pos pf_one0]
          have ep : (a * (M / b)).toInt = a.toInt * (d.toInt / (Int.gcd b.toInt d.toInt : Int)) := by rw [pa_mul (by rw [q1]; omega) (by rw [q1]; omega), q1]
          have eq : (c * (M / d)).toInt = c.toInt * (b.toInt / (Int.gcd b.toInt d.toInt : Int)) := by rw [pa_mul (by rw [q2]; omega) (by rw [q2]; omega), q2]
          unfold bk_Mo_plus_93
          rw [show ct_isB 0 = true from rfl, ct_gd_t, ct_nm_eq, ms_I_self, if_pos rfl, tw, hb', zb, ct_gd_t, ct_nm_eq, zd, ct_gd_t, ct_nm_eq, ha']
          generalize hp' : a * (M / b) = P at *
          generalize hq' : c * (M / d) = N at *
          have go : (P.toInt + N.toInt).natAbs ≤ 4611686018427387904 → ∃ t, bk_Mo_plus_171 c d (ms_I' s 8 0) 0 M P N = some t ∧ mo_ok t ∧ (mv t = match sp_plus a.toInt b.toInt c.toInt d.toInt with
            | some q => (0, q.1, q.2)
            | none => (1, 0, 0)) ∧ mo_eq s t := by
            intro hs
            have es : (P + N).toInt = P.toInt + N.toInt := pa_add (by omega) (by omega)
            obtain ⟨z1, e1, v1⟩ := pf_size (x := P + N) (by rw [es]; omega)
            have eg1 : pf_g z1.toInt M.toInt = pf_g (P + N).toInt M.toInt := by unfold pf_g; rw [v1]; rfl
            obtain ⟨r1, r2, r3, r4⟩ := pf_red (n := P + N) (m := M) (by rw [es]; exact hs) (by rw [em]; exact hm) (by rw [em]; omega)
            unfold bk_Mo_plus_171
            rw [show ct_isB 0 = true from rfl, ct_gd_t, ct_nm_eq, ms_I_self, if_neg (fun q => q rfl), tw, e1, ct_ob_s, pf_mdivisor (x := z1) (y := M) (by omega) (by rw [em]; omega), ct_ob_s, eg1, r4, ct_gd_t, ct_gd_t, mo_set _ 0, ct_ob_s]
            obtain ⟨p1, p2, p3, p4⟩ := mo_put (s := s) (x := (P + N) / pf_g (P + N).toInt M.toInt) (y := M / pf_g (P + N).toInt M.toInt)
            refine ⟨_, rfl, Or.inl ⟨p3, ?_⟩, ?_, p4⟩
            · rw [p1, p2]
              exact r1
            · unfold mv
              rw [if_pos p3, p1, p2, r2, r3]
              unfold sp_plus
              rw [← ep, ← eq, ← em, if_pos ⟨by omega, by omega, by omega, hs⟩, es]
          have no : ¬ (P.toInt + N.toInt).natAbs ≤ 4611686018427387904 → ∃ t, bk_Mo_plus_171 c d (ms_I' s 8 0) 1 M P N = some t ∧ mo_ok t ∧ (mv t = match sp_plus a.toInt b.toInt c.toInt d.toInt with
            | some q => (0, q.1, q.2)
            | none => (1, 0, 0)) ∧ mo_eq s t := by
            intro hs
            refine long _ ?_ ?_
            · unfold bk_Mo_plus_171
              rw [show ct_isB 1 = true from rfl, ct_gd_t, ct_nm_eq, ms_I_self, if_pos pf_one0, tw]
            · unfold sp_plus
              rw [← ep, ← eq]
              exact if_neg (fun q => hs q.2.2.2)
          by_cases c4 : (P.toInt + N.toInt).natAbs ≤ 4611686018427387904
          · by_cases c5 : N.toInt ≤ 0
            · rw [if_pos (pf_le0.mpr c5), if_pos ((pf_chk1 c5 (by omega)).mpr (by omega))]
              exact go c4
            · rw [if_neg (fun q => c5 (pf_le0.mp q)), if_pos ((pf_chk2 (by omega) (by omega)).mpr (by omega))]
              exact go c4
          · by_cases c5 : N.toInt ≤ 0
            · rw [if_pos (pf_le0.mpr c5), if_neg (fun q => by have q := (pf_chk1 c5 (by omega)).mp q; omega)]
              exact no c4
            · rw [if_neg (fun q => c5 (pf_le0.mp q)), if_neg (fun q => by have q := (pf_chk2 (by omega) (by omega)).mp q; omega)]
              exact no c4
        · rw [if_neg c3, if_neg (fun q => q rfl)]
          exact long _ rfl (by unfold sp_plus; exact if_neg (fun q => c3 q.2.2.1))
      · rw [if_neg c2, if_pos rfl]
        exact long _ rfl (by unfold sp_plus; exact if_neg (fun q => c2 q.2.1))
    · rw [if_neg c1', if_neg (fun q => q rfl)]
      exact long _ rfl (by unfold sp_plus; exact if_neg (fun q => c1' (by omega)))
  · rw [if_neg h0]
    refine ⟨s, rfl, hs, ?_, mo_eq.rf⟩
    have hv : mv s = (1, 0, 0) := by unfold mv; rw [if_neg h0]
    rw [hv]
    rfl
