/-! deviation: the reference's loops -/
theorem m_rowL {t : MS} (h8 : ¬ ms_I t 8 = 0) {i j : Nat} (hij : 6 * i + j + 1 < 36) (a2 : Int32) (k136 : MS → Int32 → Int32 → Int64 → Int64 → Int32 → Option (Int64 × MS)) (v3 v5 : Int32) (up dn : Int64) : ∃ t', (ct_gd (ct_inR ((6 * Int32.ofNat i) + Int32.ofNat j) 36) <|
      ct_nm (ms_A t 8 ((6 * Int32.ofNat i) + Int32.ofNat j).toNatClampNeg) fun x14 =>
      ct_ob (fn_Mo_set t (ms_L t 4) (ms_L t 5)) fun s15 =>
      ct_ob (fn_Mo_times s15 x14.toInt64 1) fun s16 =>
      ct_nm (ms_L' s16 0 (-(ms_L s16 0))) fun s17 =>
      ct_gd (ct_inR (((6 * Int32.ofNat i) + Int32.ofNat j) + 1) 36) <|
      ct_ob (fn_Mo_plus s17 ((ms_A s17 8 (((6 * Int32.ofNat i) + Int32.ofNat j) + 1).toNatClampNeg).toInt64) 1) fun s18 =>
      ct_ob (fn_Mo_times s18 (ms_L s18 0) (ms_L s18 1)) fun s19 =>
      if 0 ≤ x14 then
        bk_Mo_deviation_245 (Int32.ofNat j) a2 k136 s19 1 v3 v5 up dn (Int32.ofNat i) x14
      else
        bk_Mo_deviation_245 (Int32.ofNat j) a2 k136 s19 (-1) v3 v5 up dn (Int32.ofNat i) x14) = k136 t' v3 v5 (ms_L t' 0) (ms_L t' 1) (Int32.ofNat (i + 1)) ∧ me t t' ∧ ¬ ms_I t' 8 = 0 := by
  obtain ⟨t1, e1⟩ : ∃ t1, t1 = ms_L' (ms_L' t 0 (ms_L t 4)) 1 (ms_L t 5) := ⟨_, rfl⟩
  have m1 : me t t1 := by rw [e1]; exact me.L.tr me.L
  have n1 : ¬ ms_I t1 8 = 0 := by rw [e1]; exact h8
  have hs : fn_Mo_set t (ms_L t 4) (ms_L t 5) = some t1 := by rw [e1]; rfl
  obtain ⟨t2, e2⟩ : ∃ t2, t2 = ms_L' t1 0 (-(ms_L t1 0)) := ⟨_, rfl⟩
  have m2 : me t1 t2 := by rw [e2]; exact me.L
  have n2 : ¬ ms_I t2 8 = 0 := by rw [e2]; exact n1
  obtain ⟨c, ec⟩ : ∃ c, c = ms_A t 8 (6 * i + j) := ⟨_, rfl⟩
  have bc := i64_bd c
  obtain ⟨z, z1, z2⟩ := pf_size (x := c.toInt64) (by omega)
  have fin : ∀ sg : Int64, bk_Mo_deviation_245 (Int32.ofNat j) a2 k136 t2 sg v3 v5 up dn (Int32.ofNat i) c = k136 t2 v3 v5 (ms_L t2 0) (ms_L t2 1) (Int32.ofNat (i + 1)) := by
    intro sg
    unfold bk_Mo_deviation_245 bk_Mo_deviation_275
    rw [z1, ct_ob_s, pm_longT n2, ct_ob_s, pm_longP n2, ct_ob_s, ct_nm_eq, ct_nm_eq, pi_succ]
  refine ⟨t2, ?_, m1.tr m2, n2⟩
  rw [pi_6, pi_inR (show 6 * i + j < 36 by omega) (by omega), ct_gd_t, ct_nm_eq, pi_cl (show 6 * i + j < 2147483648 by omega), ← ec, hs, ct_ob_s, pm_longT n1, ct_ob_s, ct_nm_eq, ← e2, pi_succ, pi_inR (show 6 * i + j + 1 < 36 by omega) (by omega), ct_gd_t, pm_longP n2, ct_ob_s, pm_longT n2, ct_ob_s, fin, fin]
  by_cases c0 : 0 ≤ c
  · rw [if_pos c0]
  · rw [if_neg c0]
theorem ml_loop {s : CS} {j : Nat} (hj : j + 2 ≤ nS s) (a2 v5 : Int32) : ∀ (d n i : Nat) (t : MS) (up dn : Int64), i + d + j + 1 = nS s → Lk s t → ¬ ms_I t 8 = 0 → d < n → ∃ t', me t t' ∧ bk_Mo_deviation_136 (Int32.ofNat j) a2 n t (Int32.ofNat (nS s)) v5 up dn (Int32.ofNat i) = fn_Mo_told t' 3 a2 := by
  intro d
  induction d with
  | zero =>
    intro n i t up dn hi h h8 hn
    obtain ⟨s1, s2, s3, s4, s5, s6, s7⟩ := nS_eq h.1.2.1
    obtain ⟨n, rfl⟩ : ∃ z, n = z + 1 := ⟨n - 1, by omega⟩
    have y : Int32.ofNat (nS s) ≤ Int32.ofNat i + Int32.ofNat j + 1 := by
      rw [pi_add, pi_succ]
      exact (pi_le (by omega) (by omega)).mpr (by omega)
    have ea : fn_Mo_answer t = some 3 := by unfold fn_Mo_answer; rw [if_neg h8]
    refine ⟨t, me.rf, ?_⟩
    show bk_Mo_deviation_136_o _ _ (bk_Mo_deviation_136 _ _ n) t _ v5 up dn _ = _
    unfold bk_Mo_deviation_136_o
    rw [if_pos y, pm_longT h8, ct_ob_s, ea, ct_ob_s, ob2_some]
  | succ d ih =>
    intro n i t up dn hi h h8 hn
    obtain ⟨s1, s2, s3, s4, s5, s6, s7⟩ := nS_eq h.1.2.1
    obtain ⟨n, rfl⟩ : ∃ z, n = z + 1 := ⟨n - 1, by omega⟩
    have y : ¬ Int32.ofNat (nS s) ≤ Int32.ofNat i + Int32.ofNat j + 1 := fun q => by
      rw [pi_add, pi_succ] at q
      have := (pi_le (by omega) (by omega)).mp q
      omega
    show ∃ t', me t t' ∧ bk_Mo_deviation_136_o _ _ (bk_Mo_deviation_136 _ _ n) t _ v5 up dn _ = _
    unfold bk_Mo_deviation_136_o bk_Mo_deviation_275
    rw [if_neg y, mk_takes h.1 (show nS s ≤ 6 by omega) (show i + j + 1 < nS s by omega), ct_ob_s]
    by_cases c : tk s i j = true
    · obtain ⟨t1, q1, q2, q3⟩ := m_rowL h8 (show 6 * i + j + 1 < 36 by omega) a2 (bk_Mo_deviation_136 (Int32.ofNat j) a2 n) (Int32.ofNat (nS s)) v5 up dn
      obtain ⟨t', r1, r2⟩ := ih n (i + 1) t1 (ms_L t1 0) (ms_L t1 1) (by omega) (h.mq q2.mq) q3 (by omega)
      refine ⟨t', q2.tr r1, ?_⟩
      rw [if_pos c, if_neg pf_one0]
      exact q1.trans r2
    · obtain ⟨t', r1, r2⟩ := ih n (i + 1) t up dn (by omega) h h8 (by omega)
      refine ⟨t', r1, ?_⟩
      rw [if_neg c, if_pos rfl, pi_succ]
      exact r2
theorem quot_1 {k : Nat} (h : 1 ≤ k) : av_quot 1 (k : Int) = (0, 1, (k : Int)) := by
  unfold av_quot
  have k1 : (1 : Int) / ((1 : Nat) : Int) = 1 := rfl
  have k2 : (k : Int) / ((1 : Nat) : Int) = (k : Int) := Int.ediv_one _
  rw [if_neg (by omega), if_neg (by omega), gcd_1, k1, k2]
def dV (R : Nat) (v : AV) : AV := av_times (av_quot 1 ((R - 1 : Nat) : Int)) v
theorem mf_loop {s : CS} {j R : Nat} (hj : j + 2 ≤ nS s) (h2 : 2 ≤ R) (h6 : R ≤ 6) (a2 : Int32) : ∀ (d n i r : Nat) (t : MS) (up dn : Int64), i + d + j + 1 = nS s → Lk s t → ms_I t 8 = 0 → (0, (ms_L t 4).toInt, (ms_L t 5).toInt) = lnk s 0 j → sp_ok (ms_L t 4).toInt (ms_L t 5).toInt → sp_ok up.toInt dn.toInt → (r = 0 ∨ (ms_L t 0 = up ∧ ms_L t 1 = dn)) → udT s j i d = false → ctT s j i d r = R → d < n → ∃ t', me t t' ∧ bk_Mo_deviation_136 (Int32.ofNat j) a2 n t (Int32.ofNat (nS s)) (Int32.ofNat R) up dn (Int32.ofNat i) = fn_Mo_told t' (cd (dV R (dvA s j i d (0, up.toInt, dn.toInt) r).1)) a2 ∧ ((dV R (dvA s j i d (0, up.toInt, dn.toInt) r).1).1 = 0 → (ms_L t' 0).toInt = (dV R (dvA s j i d (0, up.toInt, dn.toInt) r).1).2.1 ∧ (ms_L t' 1).toInt = (dV R (dvA s j i d (0, up.toInt, dn.toInt) r).1).2.2) := by
  intro d
  induction d with
  | zero =>
    intro n i r t up dn hi h h8 hl hl2 hu hL hud hc hn
    obtain ⟨s1, s2, s3, s4, s5, s6, s7⟩ := nS_eq h.1.2.1
    obtain ⟨n, rfl⟩ : ∃ z, n = z + 1 := ⟨n - 1, by omega⟩
    have y : Int32.ofNat (nS s) ≤ Int32.ofNat i + Int32.ofNat j + 1 := by
      rw [pi_add, pi_succ]
      exact (pi_le (by omega) (by omega)).mpr (by omega)
    have hr : r = R := hc
    obtain ⟨x0, x1⟩ : ms_L t 0 = up ∧ ms_L t 1 = dn := by
      rcases hL with q | q
      · omega
      · exact q
    have l1 : (1 : Int64).toInt = 1 := rfl
    have e6 : (Int32.ofNat R).toInt64.toInt = (R : Int) := by rw [Int32.toInt_toInt64, pi_of (by omega)]
    have e64 : ((Int32.ofNat R).toInt64 - 1).toInt = ((R - 1 : Nat) : Int) := by
      rw [pa_sub (by omega) (by omega), e6, l1]
      omega
    obtain ⟨t1, p1, p2, p3, p4⟩ := pm_times (s := t) (c := 1) (d := (Int32.ofNat R).toInt64 - 1) (Or.inl ⟨h8, by rw [x0, x1]; exact hu⟩) ⟨sp_11.1, by rw [e64]; omega, by rw [e64]; omega⟩
    have em : mv t = (0, up.toInt, dn.toInt) := by
      rw [← x0, ← x1]
      exact if_pos h8
    have ev : mv t1 = dV R (0, up.toInt, dn.toInt) := by
      rw [p3, em, e64, l1]
      unfold dV
      rw [quot_1 (by omega), av_times_comm]
    have ed : (dvA s j i 0 (0, up.toInt, dn.toInt) r).1 = (0, up.toInt, dn.toInt) := rfl
    rw [ed, ← ev]
    refine ⟨t1, p4.me, ?_, fun q => ?_⟩
    · show bk_Mo_deviation_136_o _ _ (bk_Mo_deviation_136 _ _ n) t _ _ up dn _ = _
      unfold bk_Mo_deviation_136_o
      rw [if_pos y, p1, ct_ob_s, an_ok p2, ct_ob_s, ob2_some]
    · have e9 : mv t1 = (0, (ms_L t1 0).toInt, (ms_L t1 1).toInt) := if_pos (mv_0 q)
      rw [e9]
      exact ⟨rfl, rfl⟩
  | succ d ih =>
    intro n i r t up dn hi h h8 hl hl2 hu hL hud hc hn
    obtain ⟨s1, s2, s3, s4, s5, s6, s7⟩ := nS_eq h.1.2.1
    obtain ⟨n, rfl⟩ : ∃ z, n = z + 1 := ⟨n - 1, by omega⟩
    have y : ¬ Int32.ofNat (nS s) ≤ Int32.ofNat i + Int32.ofNat j + 1 := fun q => by
      rw [pi_add, pi_succ] at q
      have := (pi_le (by omega) (by omega)).mp q
      omega
    have hu' : ((tk s i j && decide ((dSq s j i).1 = 2)) || udT s j (i + 1) d) = false := hud
    obtain ⟨u1, u2⟩ := Bool.or_eq_false_iff.mp hu'
    by_cases c : tk s i j = true
    · rw [c, Bool.true_and] at u1
      have n2 : ¬ (dSq s j i).1 = 2 := of_decide_eq_false u1
      have hc0 : (cs_R s i j).toInt ≠ 0 := fun q => n2 (dSq_2 (Or.inr q))
      have ed : dvA s j i (d + 1) (0, up.toInt, dn.toInt) r = dvA s j (i + 1) d (av_plus (0, up.toInt, dn.toInt) (dSq s j i)) (r + 1) := if_pos c
      have ec : ctT s j i (d + 1) r = ctT s j (i + 1) d (r + 1) := if_pos c
      obtain ⟨t1, q1, q2, q3, q4, q5, q6⟩ := m_row h (show i + j + 1 < nS s by omega) h8 hl hl2 hc0 hu (Int32.ofNat j) a2 (bk_Mo_deviation_136 (Int32.ofNat j) a2 n) (Int32.ofNat (nS s)) (Int32.ofNat R) rfl
      have go : bk_Mo_deviation_136 (Int32.ofNat j) a2 (n + 1) t (Int32.ofNat (nS s)) (Int32.ofNat R) up dn (Int32.ofNat i) = bk_Mo_deviation_136 (Int32.ofNat j) a2 n t1 (Int32.ofNat (nS s)) (Int32.ofNat R) (ms_L t1 0) (ms_L t1 1) (Int32.ofNat (i + 1)) := by
        show bk_Mo_deviation_136_o _ _ (bk_Mo_deviation_136 _ _ n) t _ _ up dn _ = _
        unfold bk_Mo_deviation_136_o
        rw [if_neg y, mk_takes h.1 (show nS s ≤ 6 by omega) (show i + j + 1 < nS s by omega), ct_ob_s, if_pos c, if_neg pf_one0]
        exact q1
      rw [ed, ← q4, go]
      by_cases c8 : ms_I t1 8 = 0
      · have e3 : mv t1 = (0, (ms_L t1 0).toInt, (ms_L t1 1).toInt) := if_pos c8
        rw [e3]
        obtain ⟨t', r1, r2, r3⟩ := ih n (i + 1) (r + 1) t1 (ms_L t1 0) (ms_L t1 1) (by omega) (h.mq q2.mq) c8 (by rw [q5, q6]; exact hl) (by rw [q5, q6]; exact hl2) (mo_fine q3 c8) (Or.inr ⟨rfl, rfl⟩) u2 (by rw [← ec]; exact hc) (by omega)
        exact ⟨t', q2.tr r1, r2, r3⟩
      · obtain ⟨t', r1, r2⟩ := ml_loop hj a2 (Int32.ofNat R) d n (i + 1) t1 (ms_L t1 0) (ms_L t1 1) (by omega) (h.mq q2.mq) c8 (by omega)
        have e3 : mv t1 = (1, 0, 0) := if_neg c8
        have e4 : (dvA s j (i + 1) d (mv t1) (r + 1)).1.1 = 1 := dvA_1 d (i + 1) _ _ (by rw [e3]) u2
        have e7 : (av_quot 1 ((R - 1 : Nat) : Int)).1 = 0 := by rw [quot_1 (by omega)]
        have e5 : (dV R (dvA s j (i + 1) d (mv t1) (r + 1)).1).1 = 1 := by
          unfold dV av_times av_op
          rw [if_neg (by omega)]
          show max (av_quot 1 ((R - 1 : Nat) : Int)).1 (dvA s j (i + 1) d (mv t1) (r + 1)).1.1 = 1
          omega
        have e6 : cd (dV R (dvA s j (i + 1) d (mv t1) (r + 1)).1) = 3 := by
          unfold cd
          rw [e5]
          rfl
        rw [e6]
        exact ⟨t', q2.tr r1, r2, fun q => by omega⟩
    · have ed : dvA s j i (d + 1) (0, up.toInt, dn.toInt) r = dvA s j (i + 1) d (0, up.toInt, dn.toInt) r := if_neg c
      have ec : ctT s j i (d + 1) r = ctT s j (i + 1) d r := if_neg c
      obtain ⟨t', r1, r2, r3⟩ := ih n (i + 1) r t up dn (by omega) h h8 hl hl2 hu hL u2 (by rw [← ec]; exact hc) (by omega)
      rw [ed]
      refine ⟨t', r1, ?_, r3⟩
      show bk_Mo_deviation_136_o _ _ (bk_Mo_deviation_136 _ _ n) t _ _ up dn _ = _
      unfold bk_Mo_deviation_136_o bk_Mo_deviation_275
      rw [if_neg y, mk_takes h.1 (show nS s ≤ 6 by omega) (show i + j + 1 < nS s by omega), ct_ob_s, if_neg c, if_pos rfl, pi_succ]
      exact r2
theorem m0_loop {s : CS} {j : Nat} (hj : j + 2 ≤ nS s) (a2 : Int32) {t : MS} (h : Lk s t) : ∀ (d n i : Nat) (v5 : Int32), i + d + j + 1 = nS s → d < n → bk_Mo_deviation_52 (Int32.ofNat j) a2 n t (Int32.ofNat (nS s)) 0 v5 (Int32.ofNat i) = fn_Mo_told t 2 a2 := by
  obtain ⟨s1, s2, s3, s4, s5, s6, s7⟩ := nS_eq h.1.2.1
  intro d
  induction d with
  | zero =>
    intro n i v5 hi hn
    obtain ⟨n, rfl⟩ : ∃ z, n = z + 1 := ⟨n - 1, by omega⟩
    have y : Int32.ofNat (nS s) ≤ Int32.ofNat i + Int32.ofNat j + 1 := by
      rw [pi_add, pi_succ]
      exact (pi_le (by omega) (by omega)).mpr (by omega)
    show bk_Mo_deviation_52_o _ _ (bk_Mo_deviation_52 _ _ n) t _ _ _ _ = _
    unfold bk_Mo_deviation_52_o bk_Mo_deviation_120
    rw [if_pos y, if_pos rfl, ob2_some]
  | succ d ih =>
    intro n i v5 hi hn
    obtain ⟨n, rfl⟩ : ∃ z, n = z + 1 := ⟨n - 1, by omega⟩
    have y : ¬ Int32.ofNat (nS s) ≤ Int32.ofNat i + Int32.ofNat j + 1 := fun q => by
      rw [pi_add, pi_succ] at q
      have := (pi_le (by omega) (by omega)).mp q
      omega
    show bk_Mo_deviation_52_o _ _ (bk_Mo_deviation_52 _ _ n) t _ _ _ _ = _
    unfold bk_Mo_deviation_52_o bk_Mo_deviation_103
    rw [if_neg y, mk_takes h.1 (show nS s ≤ 6 by omega) (show i + j + 1 < nS s by omega), ct_ob_s]
    by_cases c : tk s i j = true
    · rw [if_pos c, if_neg pf_one0, if_pos rfl, pi_succ]
      exact ih n (i + 1) _ (by omega) (by omega)
    · rw [if_neg c, if_pos rfl, pi_succ]
      exact ih n (i + 1) _ (by omega) (by omega)
theorem m1_loop {s : CS} {j : Nat} (hj : j + 2 ≤ nS s) (a2 : Int32) {t : MS} (h : Lk s t) (hl : (lnk s 0 j).1 = 0) : ∀ (d n i r : Nat), i + d + j + 1 = nS s → r ≤ i → d < n → bk_Mo_deviation_52 (Int32.ofNat j) a2 n t (Int32.ofNat (nS s)) 1 (Int32.ofNat r) (Int32.ofNat i) = if udT s j i d = false ∧ 2 ≤ ctT s j i d r then bk_Mo_deviation_136 (Int32.ofNat j) a2 200 t (Int32.ofNat (nS s)) (Int32.ofNat (ctT s j i d r)) 0 1 0 else fn_Mo_told t 2 a2 := by
  obtain ⟨s1, s2, s3, s4, s5, s6, s7⟩ := nS_eq h.1.2.1
  intro d
  induction d with
  | zero =>
    intro n i r hi hri hn
    obtain ⟨n, rfl⟩ : ∃ z, n = z + 1 := ⟨n - 1, by omega⟩
    have y : Int32.ofNat (nS s) ≤ Int32.ofNat i + Int32.ofNat j + 1 := by
      rw [pi_add, pi_succ]
      exact (pi_le (by omega) (by omega)).mpr (by omega)
    have e1 : udT s j i 0 = false := rfl
    have e2 : ctT s j i 0 r = r := rfl
    have w : (2 : Int32) ≤ Int32.ofNat r ↔ 2 ≤ r := pi_le (a := 2) (by omega) (by omega)
    show bk_Mo_deviation_52_o _ _ (bk_Mo_deviation_52 _ _ n) t _ _ _ _ = _
    unfold bk_Mo_deviation_52_o bk_Mo_deviation_120
    rw [if_pos y, if_neg pf_one0, ob2_some, e2]
    by_cases c : 2 ≤ r
    · rw [if_pos (w.mpr c), if_pos ⟨e1, c⟩]
    · have nn : ¬ (udT s j i 0 = false ∧ 2 ≤ r) := fun q => c q.2
      have nw : ¬ (2 : Int32) ≤ Int32.ofNat r := fun q => c (w.mp q)
      rw [if_neg nw, if_neg nn]
  | succ d ih =>
    intro n i r hi hri hn
    obtain ⟨n, rfl⟩ : ∃ z, n = z + 1 := ⟨n - 1, by omega⟩
    have y : ¬ Int32.ofNat (nS s) ≤ Int32.ofNat i + Int32.ofNat j + 1 := fun q => by
      rw [pi_add, pi_succ] at q
      have := (pi_le (by omega) (by omega)).mp q
      omega
    show bk_Mo_deviation_52_o _ _ (bk_Mo_deviation_52 _ _ n) t _ _ _ _ = _
    unfold bk_Mo_deviation_52_o bk_Mo_deviation_103
    rw [if_neg y, mk_takes h.1 (show nS s ≤ 6 by omega) (show i + j + 1 < nS s by omega), ct_ob_s]
    by_cases c : tk s i j = true
    · have ec : ctT s j i (d + 1) r = ctT s j (i + 1) d (r + 1) := if_pos c
      have eu : udT s j i (d + 1) = (decide ((dSq s j i).1 = 2) || udT s j (i + 1) d) := by
        show ((tk s i j && decide ((dSq s j i).1 = 2)) || udT s j (i + 1) d) = _
        rw [c, Bool.true_and]
      have r1 := h.2 i j (by omega)
      rw [if_pos c, if_neg pf_one0, if_neg pf_one0, pi_6, pi_inR (show 6 * i + j < 36 by omega) (by omega), ct_gd_t, pi_cl (show 6 * i + j < 2147483648 by omega), r1, pi_succ, pi_succ, ec, eu]
      by_cases c0 : cs_R s i j = 0
      · have e2 : (dSq s j i).1 = 2 := dSq_2 (Or.inr (by rw [c0]; rfl))
        have nn : ¬ ((decide ((dSq s j i).1 = 2) || udT s j (i + 1) d) = false ∧ 2 ≤ ctT s j (i + 1) d (r + 1)) := fun q => by
          have q1 := q.1
          rw [decide_eq_true e2] at q1
          cases q1
        rw [if_pos c0, if_neg nn]
        exact m0_loop hj a2 h d n (i + 1) _ (by omega) (by omega)
      · have hne : (cs_R s i j).toInt ≠ 0 := fun q => c0 (Int32.toInt.inj q)
        have e2 : ¬ (dSq s j i).1 = 2 := by
          have := dSq_1 hl hne
          omega
        rw [if_neg c0, decide_eq_false e2, Bool.false_or]
        exact ih n (i + 1) (r + 1) (by omega) (by omega) (by omega)
    · have ec : ctT s j i (d + 1) r = ctT s j (i + 1) d r := if_neg c
      have eu : udT s j i (d + 1) = udT s j (i + 1) d := by
        show ((tk s i j && decide ((dSq s j i).1 = 2)) || udT s j (i + 1) d) = _
        rw [Bool.eq_false_iff.mpr c, Bool.false_and, Bool.false_or]
      rw [if_neg c, if_pos rfl, pi_succ, ec, eu]
      exact ih n (i + 1) r (by omega) (by omega) (by omega)
theorem dvA_le {s : CS} {j : Nat} : ∀ (d i : Nat) (v : AV) (r : Nat), v.1 ≤ 2 → (dvA s j i d v r).1.1 ≤ 2 := by
  intro d
  induction d with
  | zero => intro i v r hv; exact hv
  | succ d ih =>
    intro i v r hv
    by_cases c : tk s i j = true
    · have e : dvA s j i (d + 1) v r = dvA s j (i + 1) d (av_plus v (dSq s j i)) (r + 1) := if_pos c
      rw [e]
      exact ih _ _ _ (av_op_le hv (dSq_le s j i))
    · have e : dvA s j i (d + 1) v r = dvA s j (i + 1) d v r := if_neg c
      rw [e]
      exact ih _ _ _ hv
theorem dV_2 {s : CS} {j d : Nat} {v : AV} (hv : v.1 ≤ 2) (h : udT s j 0 d = true ∨ ctT s j 0 d 0 ≤ 1) : (dV (ctT s j 0 d 0) (dvA s j 0 d v 0).1).1 = 2 := by
  have hq : (av_quot 1 ((ctT s j 0 d 0 - 1 : Nat) : Int)).1 ≤ 2 := by
    have := av_quot_st 1 ((ctT s j 0 d 0 - 1 : Nat) : Int)
    omega
  refine av_op_2 hq (dvA_le d 0 v 0 hv) ?_
  rcases h with h | h
  · exact Or.inr (dvA_ud d 0 v 0 hv h)
  · have e : ctT s j 0 d 0 - 1 = 0 := by omega
    rw [e]
    exact Or.inl rfl
