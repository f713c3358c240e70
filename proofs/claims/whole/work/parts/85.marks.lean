/-! rounded and marks -/
theorem xor_ge {a b : Int64} (hb : 0 < b.toInt) : 0 ≤ (a ^^^ b).toInt ↔ 0 ≤ a.toInt := by
  have e : decide ((a ^^^ b).toInt < 0) = (decide (a.toInt < 0) ^^ decide (b.toInt < 0)) := by
    have h1 : (a ^^^ b).toBitVec.msb = (a.toBitVec.msb ^^ b.toBitVec.msb) := by
      rw [Int64.toBitVec_xor, BitVec.msb_xor]
    rw [BitVec.msb_eq_toInt, BitVec.msb_eq_toInt, BitVec.msb_eq_toInt] at h1
    exact h1
  have e2 : decide (b.toInt < 0) = false := decide_eq_false (by omega)
  rw [e2, Bool.xor_false] at e
  have e3 := decide_eq_decide.mp e
  omega
theorem fd_eq {a b : Int64} (ha : a.toInt.natAbs ≤ 4611686018427387904) (hb : 0 < b.toInt) (hb2 : b.toInt ≤ 4611686018427387904) : fn_Ma_floorDiv a b = some (if lg_cmp (a / b * b) a ≤ 0 then a / b else a / b - 1) := by
  have hd : (a / b).toInt = a.toInt.tdiv b.toInt := pa_div (by omega)
  have k0 := Int.mul_tdiv_add_tmod a.toInt b.toInt
  have k1 := Int.tmod_lt_of_pos a.toInt hb
  have k2 := Int.tmod_lt_of_pos (-a.toInt) hb
  rw [Int.neg_tmod] at k2
  have k3 : (a / b).toInt * b.toInt = a.toInt - a.toInt.tmod b.toInt := by
    rw [hd, Int.mul_comm]
    omega
  have k4 : (a / b * b).toInt = a.toInt - a.toInt.tmod b.toInt := by rw [pa_mul (by rw [k3]; omega) (by rw [k3]; omega), k3]
  have c3 : lg_cmp (a / b * b) a ≤ 0 ↔ 0 ≤ a.toInt.tmod b.toInt := by
    rw [lg_cmp_le, Int64.le_iff_toInt_le, k4]
    omega
  unfold fn_Ma_floorDiv
  rw [pf_gz (by omega), ct_gd_t, ct_nm_eq]
  by_cases c : 0 ≤ a.toInt
  · have c1 : 0 ≤ lg_cmp (a ^^^ b) 0 := pf_ge0.mpr ((xor_ge hb).mpr c)
    rw [if_pos c1, if_pos (c3.mpr (Int.tmod_nonneg _ c))]
  · have c1 : ¬ 0 ≤ lg_cmp (a ^^^ b) 0 := fun q => c ((xor_ge hb).mp (pf_ge0.mp q))
    have n1 := Int.tmod_nonneg b.toInt (show 0 ≤ -a.toInt by omega)
    rw [Int.neg_tmod] at n1
    have c2 : lg_cmp (a / b * b) a = 0 ↔ a.toInt.tmod b.toInt = 0 := by
      rw [lg_cmp_eq]
      constructor
      · intro q
        have q := congrArg Int64.toInt q
        rw [k4] at q
        omega
      · intro q
        apply Int64.toInt.inj
        rw [k4]
        omega
    rw [if_neg c1]
    by_cases c4 : a.toInt.tmod b.toInt = 0
    · rw [if_pos (c2.mpr c4), if_pos (c3.mpr (by omega))]
    · rw [if_neg (fun q => c4 (c2.mp q)), if_neg (fun q => by have := c3.mp q; omega)]
theorem PProunded : PP_rounded Inv := by
  intro s t h a1 a2
  have x1 : fn_CT_check s 1 = some (.inr s) := rfl
  rcases p_rows h a1 a2 with ⟨i, rfl, hi, q1, q2⟩ | ⟨q1, q2⟩
  · have e' : fn_CT_rounded s a1 (Int32.ofNat i) = bk_CT_rounded_20 a1 (Int32.ofNat i) s 1 := q1 (bk_CT_rounded_20 a1 (Int32.ofNat i) s)
    obtain ⟨g, g1, g2⟩ := pr_all h.2.1 a1
    obtain ⟨t', k1, k2, k3, k4⟩ := lk_look (h.thr (v := 0))
    obtain ⟨g', c1, c2, c3, c4, c5⟩ := c_res h g2 hi
    obtain ⟨t2, m1, m2, m3⟩ := m_res k2 a1 hi
    have hI : Inv (wF s g') t2 := (k2.1.mq m2.mq).wF c2.1
    unfold fn_Mo_rounded bk_Mo_rounded_15
    rw [e', q2, ct_ob_s, if_pos rfl]
    unfold bk_CT_rounded_20 fn_CT_checkAnswer
    rw [x1, ct_xb_r, g1, ct_ob_s, c1, ct_ob_s, ct_nm_eq, ms_I_self, if_pos rfl, k1, ct_ob_s, m1, ct_ob2_s, ct_nm_eq, ms_I_self]
    have e8 : cs_F (wF s g') 8 = g' 8 := rfl
    rw [e8]
    obtain ⟨a, b, st, hg⟩ : ∃ a b st, g' 8 = (a, b, st) := ⟨_, _, _, rfl⟩
    rw [hg] at c4 c5 ⊢
    have hs : st = 0 ∨ st = 1 ∨ st = 2 := pf_st c4
    rcases hs with rfl | rfl | rfl
    · have n2 : ¬ (0 : Int32) = 2 := by decide
      have n1 : ¬ (0 : Int32) = 1 := by decide
      have ok : sp_ok a.toInt b.toInt := pf_fine c4 rfl
      obtain ⟨v1, v2⟩ := mv_parts m3 (by rw [← c5]; rfl)
      rw [← c5] at v1 v2
      have w1 : ms_L t2 0 = a := Int64.toInt.inj v1
      have w2 : ms_L t2 1 = b := Int64.toInt.inj v2
      have ec : cd (resA s a1 i) = 0 := by rw [← c5]; rfl
      have l0' : ms_L (ms_I' t2 0 0) 0 = a := w1
      have l1' : ms_L (ms_I' t2 0 0) 1 = b := w2
      unfold fn_Fr_nearest bk_Mo_rounded_81
      rw [if_pos n2, if_pos n1, ct_xb_r, ec, if_pos rfl, l0', l1', e8, hg]
      show ∃ o r t9, ct_ob (ct_ob (fn_Ma_floorDiv a b) fun x1 => ct_nm (a - x1 * b) fun x2 => if lg_cmp x2 (b - x2) < 0 then some x1 else some (x1 + 1)) _ = _ ∧ _
      rw [fd_eq ok.1 ok.2.1 ok.2.2, pf_gz (by have := ok.2.1; omega), ct_gd_t, ct_ob_s, ct_nm_eq, ct_nm_eq, ct_nm_eq, ct_nm_eq]
      by_cases d1 : lg_cmp (a / b * b) a ≤ 0
      · rw [if_pos d1, if_pos d1]
        by_cases d2 : lg_cmp (a - a / b * b) (b - (a - a / b * b)) < 0
        · rw [if_pos d2, if_pos d2, ct_ob_s]
          exact ⟨_, _, _, rfl, rfl, fun k s1 q => (by cases q), rfl, hI.thr, fun v s1 q => (by cases q; rfl)⟩
        · rw [if_neg d2, if_neg d2, ct_ob_s]
          exact ⟨_, _, _, rfl, rfl, fun k s1 q => (by cases q), rfl, hI.thr, fun v s1 q => (by cases q; rfl)⟩
      · rw [if_neg d1, if_neg d1]
        by_cases d2 : lg_cmp (a - (a / b - 1) * b) (b - (a - (a / b - 1) * b)) < 0
        · rw [if_pos d2, if_pos d2, ct_ob_s]
          exact ⟨_, _, _, rfl, rfl, fun k s1 q => (by cases q), rfl, hI.thr, fun v s1 q => (by cases q; rfl)⟩
        · rw [if_neg d2, if_neg d2, ct_ob_s]
          exact ⟨_, _, _, rfl, rfl, fun k s1 q => (by cases q), rfl, hI.thr, fun v s1 q => (by cases q; rfl)⟩
    · have n2 : ¬ (1 : Int32) = 2 := by decide
      have n1 : ¬ ¬ (1 : Int32) = 1 := fun q => q rfl
      have ec : cd (resA s a1 i) = 3 := by rw [← c5]; rfl
      have n3 : ¬ (3 : Int32) = 0 := by decide
      rw [if_pos n2, if_neg n1, ct_xb_l, ec, if_neg n3]
      exact ⟨_, _, _, rfl, rfl, fun k s1 q => (by cases q; exact Or.inr (Or.inr rfl)), rfl, hI.thr, fun v s1 q => (by cases q)⟩
    · have n2 : ¬ ¬ (2 : Int32) = 2 := fun q => q rfl
      have ec : cd (resA s a1 i) = 2 := by rw [← c5]; rfl
      have n3 : ¬ (2 : Int32) = 0 := by decide
      rw [if_neg n2, ct_xb_l, ec, if_neg n3]
      exact ⟨_, _, _, rfl, rfl, fun k s1 q => (by cases q; exact Or.inr (Or.inl rfl)), rfl, hI.thr, fun v s1 q => (by cases q)⟩
  · have e' : fn_CT_rounded s a1 a2 = bk_CT_rounded_20 a1 a2 s 0 := q1 (bk_CT_rounded_20 a1 a2 s)
    have mbad : bk_Mo_rounded_15 a1 a2 t 1 = some (0, ms_I' t 0 1) := rfl
    unfold fn_Mo_rounded
    rw [e', q2, ct_ob_s, if_neg pf_one0, mbad]
    exact ⟨_, _, _, rfl, rfl, agl_bad h⟩
theorem mk_loop {s : CS} {t0 : MS} (h0 : Inv s t0) (m : Int32) : ∀ (d n i : Nat) (v : Int32) (g : Nat → Int64 × Int64 × Int32) (t : MS), i + d = nS s → Prp s m g → Lk s t → d < n → ∃ w g' t', bk_Re_markRows_4 m n (wF s g) v (Int32.ofNat i) = some (w, wF s g') ∧ bk_Mo_marks_35 m n t v (Int32.ofNat i) = some (w, t') ∧ Prp s m g' ∧ me t t' := by
  obtain ⟨s1, s2, s3, s4, s5, s6, s7⟩ := nS_eq h0.2.1
  have sh : ∀ g, fn_Tr_shown (wF s g) = some (Int32.ofNat (nS s)) := fun g => cS_eq h0.2.1
  intro d
  induction d with
  | zero =>
    intro n i v g t hi hp hk hn
    obtain ⟨n, rfl⟩ : ∃ z, n = z + 1 := ⟨n - 1, by omega⟩
    have y : Int32.ofNat (nS s) ≤ Int32.ofNat i := (pi_le (by omega) (by omega)).mpr (by omega)
    refine ⟨v, g, t, ?_, ?_, hp, me.rf⟩
    · show bk_Re_markRows_4_o _ (bk_Re_markRows_4 _ n) (wF s g) v _ = _
      unfold bk_Re_markRows_4_o
      rw [sh, ct_ob_s, if_pos y]
    · show bk_Mo_marks_35_o _ (bk_Mo_marks_35 _ n) t v _ = _
      unfold bk_Mo_marks_35_o
      rw [mS_eq hk.1, ct_ob_s, if_pos y]
  | succ d ih =>
    intro n i v g t hi hp hk hn
    obtain ⟨n, rfl⟩ : ∃ z, n = z + 1 := ⟨n - 1, by omega⟩
    have y : ¬ Int32.ofNat (nS s) ≤ Int32.ofNat i := fun q => by have := (pi_le (by omega) (by omega)).mp q; omega
    obtain ⟨g', c1, c2, c3, c4, c5⟩ := c_res hk.1 hp (show i < nS s by omega)
    obtain ⟨t2, m1, m2, m3⟩ := m_res hk m (show i < nS s by omega)
    show ∃ w g' t', bk_Re_markRows_4_o _ (bk_Re_markRows_4 _ n) (wF s g) v _ = some (w, wF s g') ∧ bk_Mo_marks_35_o _ (bk_Mo_marks_35 _ n) t v _ = some (w, t') ∧ Prp s m g' ∧ me t t'
    unfold bk_Re_markRows_4_o bk_Mo_marks_35_o bk_Re_markRows_52 bk_Mo_marks_74
    rw [sh, ct_ob_s, if_neg y, c1, ct_ob_s, mS_eq hk.1, ct_ob_s, if_neg y, m1, ct_ob2_s, pi_succ, ct_nm_eq, ct_nm_eq, ct_nm_eq, Int32.add_zero]
    have e8 : cs_F (wF s g') 8 = g' 8 := rfl
    rw [e8]
    have go : ∀ u, ∃ w g'' t', bk_Re_markRows_4 m n (wF s g') u (Int32.ofNat (i + 1)) = some (w, wF s g'') ∧ bk_Mo_marks_35 m n t2 u (Int32.ofNat (i + 1)) = some (w, t') ∧ Prp s m g'' ∧ me t t' := fun u => by
      obtain ⟨w, g'', t', r1, r2, r3, r4⟩ := ih n (i + 1) u g' t2 (by omega) c2 (hk.mq m2.mq) (by omega)
      exact ⟨w, g'', t', r1, r2, r3, m2.tr r4⟩
    obtain ⟨a, b, st, hg⟩ : ∃ a b st, g' 8 = (a, b, st) := ⟨_, _, _, rfl⟩
    rw [hg] at c4 c5 ⊢
    have hs : st = 0 ∨ st = 1 ∨ st = 2 := pf_st c4
    rcases hs with rfl | rfl | rfl
    · have ec : cd (resA s m i) = 0 := by rw [← c5]; rfl
      have n1 : ¬ (0 : Int32) = 2 := by decide
      have n2 : ¬ (0 : Int32) = 1 := by decide
      have n3 : ¬ (0 : Int32) = 3 := by decide
      rw [ec, if_pos n1, if_pos n2, if_pos n1, if_pos n3]
      exact go v
    · have ec : cd (resA s m i) = 3 := by rw [← c5]; rfl
      have n1 : ¬ (1 : Int32) = 2 := by decide
      have n2 : ¬ ¬ (1 : Int32) = 1 := fun q => q rfl
      have n3 : ¬ (3 : Int32) = 2 := by decide
      have n4 : ¬ ¬ (3 : Int32) = 3 := fun q => q rfl
      rw [ec, if_pos n1, if_neg n2, if_pos n3, if_neg n4]
      exact go (v + 10)
    · have ec : cd (resA s m i) = 2 := by rw [← c5]; rfl
      have n1 : ¬ ¬ (2 : Int32) = 2 := fun q => q rfl
      rw [ec, if_neg n1, if_neg n1]
      exact go (v + 1)
theorem PPmarks : PP_marks Inv := by
  intro s t h a1
  obtain ⟨s1, s2, s3, s4, s5, s6, s7⟩ := nS_eq h.2.1
  have e3 : a1 ≤ 3 ↔ ¬ 3 < a1 := Int32.not_lt.symm
  have mbad : bk_Mo_marks_15 a1 t 1 = some (0, ms_I' t 0 1) := rfl
  unfold fn_CT_marks fn_Mo_marks
  rw [p_method, ct_ob_s, p_ck, mbad]
  by_cases c1 : a1 < 0
  · rw [if_neg (fun q => q.1 c1), ct_xb_l, if_pos c1]
    exact ⟨_, _, _, rfl, rfl, ag_bad h⟩
  · by_cases c2 : 3 < a1
    · rw [if_neg (fun q => q.2 c2), ct_xb_l, if_neg c1, if_neg (fun q => e3.mp q c2)]
      exact ⟨_, _, _, rfl, rfl, ag_bad h⟩
    · obtain ⟨g, g1, g2⟩ := pr_all h.2.1 a1
      obtain ⟨t', k1, k2, k3, k4⟩ := lk_look (h.thr (v := 0))
      obtain ⟨w, g', t2, r1, r2, r3, r4⟩ := mk_loop h a1 (nS s) 200 0 0 g t' (by omega) g2 k2 (by omega)
      have r1' : bk_Re_markRows_4 a1 200 (wF s g) 0 0 = some (w, wF s g') := r1
      have r2' : bk_Mo_marks_35 a1 200 t' 0 0 = some (w, t2) := r2
      unfold fn_Re_markRows bk_Mo_marks_15
      rw [if_pos ⟨c1, c2⟩, ct_xb_r, g1, ct_ob_s, r1', ct_ob2_s, if_neg c1, if_pos (e3.mpr c2), ct_nm_eq, ms_I_self, if_pos rfl, k1, ct_ob_s, r2']
      exact ⟨_, _, _, rfl, rfl, fun k s1 q => (by cases q), (r4.2 0 (by decide)).trans k3, (k2.1.mq r4.mq).wF r3.1, fun v s1 q => (by cases q; rfl)⟩
