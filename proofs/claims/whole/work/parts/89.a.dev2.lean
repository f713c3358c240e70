/-! deviation: the reference's side -/
theorem av_op_1 {f : Int → Int → Int → Int → Option (Int × Int)} {x y : AV} (hx : x.1 ≤ 1) (hy : y.1 ≤ 1) : (av_op f x y).1 ≤ 1 := by
  unfold av_op
  by_cases c : x.1 = 0 ∧ y.1 = 0
  · rw [if_pos c]
    cases f x.2.1 x.2.2 y.2.1 y.2.2
    · exact Nat.le_refl 1
    · exact Nat.zero_le 1
  · rw [if_neg c]
    show max x.1 y.1 ≤ 1
    omega
theorem quot_ne {a b : Int} (h : b ≠ 0) : (av_quot a b).1 = 0 := by
  unfold av_quot
  rw [if_neg h]
  by_cases d : b < 0
  · rw [if_pos d]
  · rw [if_neg d]
theorem dX_le (s : CS) (j i : Nat) : (dX s j i).1 ≤ 2 := av_op_le (by rw [av_neg_st]; exact av_op_le (lnk_le s 0 j) (Nat.zero_le 2)) (Nat.zero_le 2)
theorem dSq_le (s : CS) (j i : Nat) : (dSq s j i).1 ≤ 2 := av_op_le (av_op_le (dX_le s j i) (dX_le s j i)) (by have := av_quot_st 1 (cs_R s i j).toInt; omega)
theorem dSq_1 {s : CS} {j i : Nat} (hl : (lnk s 0 j).1 = 0) (hc : (cs_R s i j).toInt ≠ 0) : (dSq s j i).1 ≤ 1 := by
  have h1 : (dX s j i).1 ≤ 1 := av_op_1 (by rw [av_neg_st]; exact av_op_1 (by omega) (Nat.zero_le 1)) (Nat.zero_le 1)
  exact av_op_1 (av_op_1 h1 h1) (by rw [quot_ne hc]; exact Nat.zero_le 1)
theorem dSq_2 {s : CS} {j i : Nat} (h : (lnk s 0 j).1 = 2 ∨ (cs_R s i j).toInt = 0) : (dSq s j i).1 = 2 := by
  have hq : (av_quot 1 (cs_R s i j).toInt).1 ≤ 2 := by have := av_quot_st 1 (cs_R s i j).toInt; omega
  have hx := dX_le s j i
  rcases h with h | h
  · have t1 : (av_times (lnk s 0 j) (av_int (cs_R s i j).toInt)).1 = 2 := av_op_2 (by omega) (Nat.zero_le 2) (Or.inl h)
    have t2 : (dX s j i).1 = 2 := av_op_2 (by rw [av_neg_st]; omega) (Nat.zero_le 2) (Or.inl (by rw [av_neg_st]; exact t1))
    exact av_op_2 (av_op_le hx hx) hq (Or.inl (av_op_2 hx hx (Or.inl t2)))
  · exact av_op_2 (av_op_le hx hx) hq (Or.inr (by unfold av_quot; rw [if_pos h]))
def udT (s : CS) (j : Nat) : Nat → Nat → Bool
  | _, 0 => false
  | i, d + 1 => (tk s i j && decide ((dSq s j i).1 = 2)) || udT s j (i + 1) d
theorem dvA_2 {s : CS} {j : Nat} : ∀ (d i : Nat) (v : AV) (r : Nat), v.1 = 2 → (dvA s j i d v r).1.1 = 2 := by
  intro d
  induction d with
  | zero => intro i v r hv; exact hv
  | succ d ih =>
    intro i v r hv
    by_cases c : tk s i j = true
    · have e : dvA s j i (d + 1) v r = dvA s j (i + 1) d (av_plus v (dSq s j i)) (r + 1) := if_pos c
      rw [e]
      exact ih _ _ _ (av_op_2 (by omega) (dSq_le s j i) (Or.inl hv))
    · have e : dvA s j i (d + 1) v r = dvA s j (i + 1) d v r := if_neg c
      rw [e]
      exact ih _ _ _ hv
theorem dvA_ud {s : CS} {j : Nat} : ∀ (d i : Nat) (v : AV) (r : Nat), v.1 ≤ 2 → udT s j i d = true → (dvA s j i d v r).1.1 = 2 := by
  intro d
  induction d with
  | zero => intro i v r hv h; cases h
  | succ d ih =>
    intro i v r hv h
    have h' : ((tk s i j && decide ((dSq s j i).1 = 2)) || udT s j (i + 1) d) = true := h
    by_cases c : tk s i j = true
    · have e : dvA s j i (d + 1) v r = dvA s j (i + 1) d (av_plus v (dSq s j i)) (r + 1) := if_pos c
      rw [e]
      rcases Bool.or_eq_true_iff.mp h' with q | q
      · rw [c, Bool.true_and] at q
        exact dvA_2 _ _ _ _ (av_op_2 hv (dSq_le s j i) (Or.inr (of_decide_eq_true q)))
      · exact ih _ _ _ (av_op_le hv (dSq_le s j i)) q
    · have e : dvA s j i (d + 1) v r = dvA s j (i + 1) d v r := if_neg c
      rw [e]
      have c' : tk s i j = false := Bool.eq_false_iff.mpr c
      rw [c', Bool.false_and, Bool.false_or] at h'
      exact ih _ _ _ hv h'
theorem dvA_1 {s : CS} {j : Nat} : ∀ (d i : Nat) (v : AV) (r : Nat), v.1 = 1 → udT s j i d = false → (dvA s j i d v r).1.1 = 1 := by
  intro d
  induction d with
  | zero => intro i v r hv h; exact hv
  | succ d ih =>
    intro i v r hv h
    have h' : ((tk s i j && decide ((dSq s j i).1 = 2)) || udT s j (i + 1) d) = false := h
    obtain ⟨h1, h2⟩ := Bool.or_eq_false_iff.mp h'
    by_cases c : tk s i j = true
    · have e : dvA s j i (d + 1) v r = dvA s j (i + 1) d (av_plus v (dSq s j i)) (r + 1) := if_pos c
      rw [e]
      rw [c, Bool.true_and] at h1
      have n2 : ¬ (dSq s j i).1 = 2 := of_decide_eq_false h1
      have n3 := dSq_le s j i
      refine ih _ _ _ ?_ h2
      unfold av_plus av_op
      rw [if_neg (by omega)]
      show max v.1 (dSq s j i).1 = 1
      omega
    · have e : dvA s j i (d + 1) v r = dvA s j (i + 1) d v r := if_neg c
      rw [e]
      exact ih _ _ _ hv h2
/-- how many rows are taken doesn't hang on the sum -/
def ctT (s : CS) (j : Nat) : Nat → Nat → Nat → Nat
  | _, 0, r => r
  | i, d + 1, r => if tk s i j = true then ctT s j (i + 1) d (r + 1) else ctT s j (i + 1) d r
theorem dvA_ct {s : CS} {j : Nat} : ∀ (d i : Nat) (v : AV) (r : Nat), (dvA s j i d v r).2 = ctT s j i d r := by
  intro d
  induction d with
  | zero => intro i v r; rfl
  | succ d ih =>
    intro i v r
    by_cases c : tk s i j = true
    · have e : dvA s j i (d + 1) v r = dvA s j (i + 1) d (av_plus v (dSq s j i)) (r + 1) := if_pos c
      have e2 : ctT s j i (d + 1) r = ctT s j (i + 1) d (r + 1) := if_pos c
      rw [e, e2, ih]
    · have e : dvA s j i (d + 1) v r = dvA s j (i + 1) d v r := if_neg c
      have e2 : ctT s j i (d + 1) r = ctT s j (i + 1) d r := if_neg c
      rw [e, e2, ih]
theorem ctT_bd {s : CS} {j : Nat} : ∀ (d i r : Nat), r ≤ ctT s j i d r ∧ ctT s j i d r ≤ r + d := by
  intro d
  induction d with
  | zero => intro i r; exact ⟨Nat.le_refl r, Nat.le_refl r⟩
  | succ d ih =>
    intro i r
    by_cases c : tk s i j = true
    · have e2 : ctT s j i (d + 1) r = ctT s j (i + 1) d (r + 1) := if_pos c
      have := ih (i + 1) (r + 1)
      omega
    · have e2 : ctT s j i (d + 1) r = ctT s j (i + 1) d r := if_neg c
      have := ih (i + 1) r
      omega
theorem ctT_ud {s : CS} {j : Nat} (hl : (lnk s 0 j).1 = 2) : ∀ (d i r : Nat), r < ctT s j i d r → udT s j i d = true := by
  intro d
  induction d with
  | zero => intro i r h; exact absurd h (Nat.lt_irrefl r)
  | succ d ih =>
    intro i r h
    show ((tk s i j && decide ((dSq s j i).1 = 2)) || udT s j (i + 1) d) = true
    by_cases c : tk s i j = true
    · rw [c, decide_eq_true (dSq_2 (Or.inl hl))]
      rfl
    · have e2 : ctT s j i (d + 1) r = ctT s j (i + 1) d r := if_neg c
      rw [ih (i + 1) r (by omega), Bool.or_true]
theorem pm_longT {t : MS} (h : ¬ ms_I t 8 = 0) (c d : Int64) : fn_Mo_times t c d = some t := by
  unfold fn_Mo_times
  rw [if_neg h]
theorem pm_longP {t : MS} (h : ¬ ms_I t 8 = 0) (c d : Int64) : fn_Mo_plus t c d = some t := by
  unfold fn_Mo_plus
  rw [if_neg h]
theorem pm_sq {t : MS} (h : mo_ok t) : ∃ t', fn_Mo_times t (ms_L t 0) (ms_L t 1) = some t' ∧ mo_ok t' ∧ mv t' = av_times (mv t) (mv t) ∧ mo_eq t t' := by
  by_cases c : ms_I t 8 = 0
  · have em : mv t = (0, (ms_L t 0).toInt, (ms_L t 1).toInt) := if_pos c
    obtain ⟨t', p1, p2, p3, p4⟩ := pm_times (s := t) (c := ms_L t 0) (d := ms_L t 1) h (mo_fine h c)
    exact ⟨t', p1, p2, by rw [p3, ← em], p4⟩
  · have em : mv t = (1, 0, 0) := if_neg c
    refine ⟨t, pm_longT c _ _, h, ?_, mo_eq.rf⟩
    rw [em]
    rfl
theorem gcd_1 (b : Int) : Int.gcd 1 b = 1 := by simp [Int.gcd]
/-- one row's square on the reference's side, in the fine state -/
theorem m_row {s : CS} {t : MS} (h : Lk s t) {i j : Nat} (hij : i + j + 1 < nS s) (h8 : ms_I t 8 = 0) (hl : (0, (ms_L t 4).toInt, (ms_L t 5).toInt) = lnk s 0 j) (hl2 : sp_ok (ms_L t 4).toInt (ms_L t 5).toInt) (hc : (cs_R s i j).toInt ≠ 0) {up dn : Int64} (hu : sp_ok up.toInt dn.toInt) (a1 a2 : Int32) (k136 : MS → Int32 → Int32 → Int64 → Int64 → Int32 → Option (Int64 × MS)) (v3 v5 : Int32) (hjj : a1 = Int32.ofNat j) : ∃ t', (ct_gd (ct_inR ((6 * Int32.ofNat i) + a1) 36) <|
      ct_nm (ms_A t 8 ((6 * Int32.ofNat i) + a1).toNatClampNeg) fun x14 =>
      ct_ob (fn_Mo_set t (ms_L t 4) (ms_L t 5)) fun s15 =>
      ct_ob (fn_Mo_times s15 x14.toInt64 1) fun s16 =>
      ct_nm (ms_L' s16 0 (-(ms_L s16 0))) fun s17 =>
      ct_gd (ct_inR (((6 * Int32.ofNat i) + a1) + 1) 36) <|
      ct_ob (fn_Mo_plus s17 ((ms_A s17 8 (((6 * Int32.ofNat i) + a1) + 1).toNatClampNeg).toInt64) 1) fun s18 =>
      ct_ob (fn_Mo_times s18 (ms_L s18 0) (ms_L s18 1)) fun s19 =>
      if 0 ≤ x14 then
        bk_Mo_deviation_245 a1 a2 k136 s19 1 v3 v5 up dn (Int32.ofNat i) x14
      else
        bk_Mo_deviation_245 a1 a2 k136 s19 (-1) v3 v5 up dn (Int32.ofNat i) x14) = k136 t' v3 v5 (ms_L t' 0) (ms_L t' 1) (Int32.ofNat (i + 1)) ∧ me t t' ∧ mo_ok t' ∧ mv t' = av_plus (0, up.toInt, dn.toInt) (dSq s j i) ∧ ms_L t' 4 = ms_L t 4 ∧ ms_L t' 5 = ms_L t 5 := by
  obtain ⟨s1, s2, s3, s4, s5, s6, s7⟩ := nS_eq h.1.2.1
  subst hjj
  have r1 := h.2 i j (by omega)
  have r2 := h.2 i (j + 1) (by omega)
  have e1 : (cs_R s i j).toInt64.toInt = (cs_R s i j).toInt := Int32.toInt_toInt64 _
  have e2 : (cs_R s i (j + 1)).toInt64.toInt = (cs_R s i (j + 1)).toInt := Int32.toInt_toInt64 _
  have hset : fn_Mo_set t (ms_L t 4) (ms_L t 5) = some (ms_L' (ms_L' t 0 (ms_L t 4)) 1 (ms_L t 5)) := rfl
  have l1 : (1 : Int64).toInt = 1 := rfl
  have lm : (-1 : Int64).toInt = -1 := rfl
  have b1 := pa_hi32 (cs_R s i j)
  have b2 := pa_lo32 (cs_R s i j)
  have m0 : mo_eq t (ms_L' (ms_L' t 0 (ms_L t 4)) 1 (ms_L t 5)) := ⟨rfl, fun _ _ => rfl, fun _ h0 h1 => (ms_L_ne h1).trans (ms_L_ne h0)⟩
  have v0 : mv (ms_L' (ms_L' t 0 (ms_L t 4)) 1 (ms_L t 5)) = lnk s 0 j := by
    rw [← hl]
    exact if_pos h8
  obtain ⟨t1, p1, p2, p3, p4⟩ := pm_times (s := ms_L' (ms_L' t 0 (ms_L t 4)) 1 (ms_L t 5)) (c := (cs_R s i j).toInt64) (d := 1) (Or.inl ⟨h8, hl2⟩) ⟨i64_bd _, sp_11.2.1, sp_11.2.2⟩
  obtain ⟨q2, q3, q4⟩ := pm_neg p2
  have hA : ms_A (ms_L' t1 0 (-(ms_L t1 0))) 8 (6 * i + (j + 1)) = cs_R s i (j + 1) := (h.mq ((m0.me.tr p4.me).tr q4.me).mq).2 i (j + 1) (by omega)
  obtain ⟨t3, w1, w2, w3, w4⟩ := pm_plus (s := ms_L' t1 0 (-(ms_L t1 0))) (c := (cs_R s i (j + 1)).toInt64) (d := 1) q2 ⟨i64_bd _, sp_11.2.1, sp_11.2.2⟩
  have vX : mv t3 = dX s j i := by
    rw [w3, q3, p3, v0, e1, e2, l1]
    rfl
  obtain ⟨t4, x1, x2, x3, x4⟩ := pm_sq w2
  obtain ⟨z, z1, z2⟩ := pf_size (x := (cs_R s i j).toInt64) (by omega)
  have fin : ∀ sg : Int64, sp_ok sg.toInt z.toInt → (0, sg.toInt, z.toInt) = av_quot 1 (cs_R s i j).toInt → ∃ t', bk_Mo_deviation_245 (Int32.ofNat j) a2 k136 t4 sg v3 v5 up dn (Int32.ofNat i) (cs_R s i j) = k136 t' v3 v5 (ms_L t' 0) (ms_L t' 1) (Int32.ofNat (i + 1)) ∧ me t t' ∧ mo_ok t' ∧ mv t' = av_plus (0, up.toInt, dn.toInt) (dSq s j i) ∧ ms_L t' 4 = ms_L t 4 ∧ ms_L t' 5 = ms_L t 5 := by
    intro sg hs hq
    obtain ⟨t5, y1, y2, y3, y4⟩ := pm_times (s := t4) (c := sg) (d := z) x2 hs
    obtain ⟨t6, u1, u2, u3, u4⟩ := pm_plus (s := t5) (c := up) (d := dn) y2 hu
    have ma : mo_eq t t6 := ((((m0.tr p4).tr q4).tr w4).tr (x4.tr y4)).tr u4
    refine ⟨t6, ?_, ma.me, u2, ?_, ma.2.2 4 (by decide) (by decide), ma.2.2 5 (by decide) (by decide)⟩
    · unfold bk_Mo_deviation_245 bk_Mo_deviation_275
      rw [z1, ct_ob_s, y1, ct_ob_s, u1, ct_ob_s, ct_nm_eq, ct_nm_eq, pi_succ]
    · rw [u3, y3, x3, vX, hq, av_plus_comm]
      rfl
  have okz : ∀ sg : Int64, sg.toInt.natAbs ≤ 1 → sp_ok sg.toInt z.toInt := fun sg hs => ⟨by omega, by omega, by omega⟩
  rw [pi_6, pi_inR (show 6 * i + j < 36 by omega) (by omega), ct_gd_t, ct_nm_eq, pi_cl (show 6 * i + j < 2147483648 by omega), r1, hset, ct_ob_s, p1, ct_ob_s, ct_nm_eq, pi_succ, pi_inR (show 6 * i + j + 1 < 36 by omega) (by omega), ct_gd_t, pi_cl (show 6 * i + j + 1 < 2147483648 by omega), Nat.add_assoc (6 * i) j 1, hA, w1, ct_ob_s, x1, ct_ob_s]
  by_cases c : 0 ≤ cs_R s i j
  · rw [if_pos c]
    rw [pi_le32, l0] at c
    refine fin 1 (okz 1 (by decide)) ?_
    unfold av_quot
    rw [if_neg hc, if_neg (by omega), gcd_1, l1, z2, e1]
    have k1 : (1 : Int) / ((1 : Nat) : Int) = 1 := rfl
    have k2 : (cs_R s i j).toInt / ((1 : Nat) : Int) = (cs_R s i j).toInt := Int.ediv_one _
    rw [k1, k2, show ((cs_R s i j).toInt.natAbs : Int) = (cs_R s i j).toInt by omega]
  · rw [if_neg c]
    rw [pi_le32, l0] at c
    refine fin (-1) (okz (-1) (by decide)) ?_
    unfold av_quot
    rw [if_neg hc, if_pos (by omega), gcd_1, lm, z2, e1]
    have k1 : -((1 : Int) / ((1 : Nat) : Int)) = -1 := rfl
    have k2 : -(cs_R s i j).toInt / ((1 : Nat) : Int) = -(cs_R s i j).toInt := Int.ediv_one _
    rw [k1, k2, show ((cs_R s i j).toInt.natAbs : Int) = -(cs_R s i j).toInt by omega]
