/-! total and error -/
def sumA (f : Nat → AV) : Nat → Nat → AV → AV
  | _, 0, v => v
  | a, d + 1, v => sumA f (a + 1) d (av_plus v (f a))
theorem fv_le (x : Int64 × Int64 × Int32) : (fv x).1 ≤ 2 := by
  unfold fv
  by_cases c : x.2.2 = 0
  · rw [if_pos c]; exact Nat.zero_le 2
  · rw [if_neg c]
    by_cases d : x.2.2 = 1
    · rw [if_pos d]; exact Nat.le_succ 1
    · rw [if_neg d]; exact Nat.le_refl 2
theorem res_le {s : CS} {t : MS} (h : Inv s t) (m : Int32) {i : Nat} (hi : i < nS s) : (resA s m i).1 ≤ 2 := by
  obtain ⟨g, g1, g2⟩ := pr_all h.2.1 m
  obtain ⟨g', c1, c2, c3, c4, c5⟩ := c_res h g2 hi
  rw [← c5]
  exact fv_le _
theorem sumA_2 {f : Nat → AV} : ∀ (d a : Nat) (v : AV), (∀ j, j < a + d → (f j).1 ≤ 2) → v.1 = 2 → (sumA f a d v).1 = 2 := by
  intro d
  induction d with
  | zero => intro a v hf hv; exact hv
  | succ d ih => intro a v hf hv; exact ih (a + 1) _ (fun j hj => hf j (by omega)) (av_op_2 (by omega) (hf a (by omega)) (Or.inl hv))
theorem sumA_udf {f : Nat → AV} : ∀ (d a : Nat) (v : AV), (∀ j, j < a + d → (f j).1 ≤ 2) → v.1 ≤ 2 → udf f a d = true → (sumA f a d v).1 = 2 := by
  intro d
  induction d with
  | zero => intro a v hf hv h; cases h
  | succ d ih =>
    intro a v hf hv h
    have h' : (decide ((f a).1 = 2) || udf f (a + 1) d) = true := h
    rcases Bool.or_eq_true_iff.mp h' with q | q
    · exact sumA_2 d (a + 1) _ (fun j hj => hf j (by omega)) (av_op_2 hv (hf a (by omega)) (Or.inr (of_decide_eq_true q)))
    · exact ih (a + 1) _ (fun j hj => hf j (by omega)) (av_op_le hv (hf a (by omega))) q
theorem sumA_1 {f : Nat → AV} : ∀ (d a : Nat) (v : AV), (∀ j, j < a + d → (f j).1 ≤ 2) → v.1 = 1 → udf f a d = false → (sumA f a d v).1 = 1 := by
  intro d
  induction d with
  | zero => intro a v hf hv h; exact hv
  | succ d ih =>
    intro a v hf hv h
    obtain ⟨e1, e2⟩ := Bool.or_eq_false_iff.mp (show (decide ((f a).1 = 2) || udf f (a + 1) d) = false from h)
    have n2 : ¬ (f a).1 = 2 := of_decide_eq_false e1
    have n3 := hf a (by omega)
    refine ih (a + 1) _ (fun j hj => hf j (by omega)) ?_ e2
    unfold av_plus av_op
    rw [if_neg (by omega)]
    show max v.1 (f a).1 = 1
    omega
theorem ct_loop {s : CS} {t : MS} (h : Inv s t) (m : Int32) : ∀ (d n i : Nat) (g : Nat → Int64 × Int64 × Int32), i + d = nS s → Prp s m g → fr_ok (g 11) → d < n → ∃ g', bk_Re_toTotal_10 m n (wF s g) (Int32.ofNat i) = some (wF s g') ∧ Prp s m g' ∧ fr_ok (g' 8) ∧ fv (g' 8) = sumA (resA s m) i d (fv (g 11)) := by
  obtain ⟨s1, s2, s3, s4, s5, s6, s7⟩ := nS_eq h.2.1
  have sh : ∀ g, fn_Tr_shown (wF s g) = some (Int32.ofNat (nS s)) := fun g => cS_eq h.2.1
  intro d
  induction d with
  | zero =>
    intro n i g hi hp h11 hn
    obtain ⟨n, rfl⟩ : ∃ z, n = z + 1 := ⟨n - 1, by omega⟩
    have y : Int32.ofNat (nS s) ≤ Int32.ofNat i := (pi_le (by omega) (by omega)).mpr (by omega)
    refine ⟨va_up g 8 (g 11), ?_, hp.up h.2.1 (by decide), ?_, ?_⟩
    · show bk_Re_toTotal_10_o _ (bk_Re_toTotal_10 _ n) (wF s g) _ = _
      unfold bk_Re_toTotal_10_o
      rw [sh, ct_ob_s, if_pos y, pf_copy (by decide), ct_ob_s, wF_put]
      rfl
    · rw [va_up_self]; exact h11
    · rw [va_up_self]; rfl
  | succ d ih =>
    intro n i g hi hp h11 hn
    obtain ⟨n, rfl⟩ : ∃ z, n = z + 1 := ⟨n - 1, by omega⟩
    have y : ¬ Int32.ofNat (nS s) ≤ Int32.ofNat i := fun q => by have := (pi_le (by omega) (by omega)).mp q; omega
    obtain ⟨g1, c1, c2, c3, c4, c5⟩ := c_res h hp (show i < nS s by omega)
    obtain ⟨x, x1, x2, x3⟩ := pf_plus (s := wF s g1) (f := 11) (o := 8) (by decide) (ok_eq c3 h11) c4
    have u11 : va_up g1 11 x 11 = x := va_up_self _ _ _
    obtain ⟨g', r1, r2, r3, r4⟩ := ih n (i + 1) (va_up g1 11 x) (by omega) (c2.up h.2.1 (by decide)) (ok_eq u11 x2) (by omega)
    have x3' : fv x = av_plus (fv (g 11)) (resA s m i) := by
      rw [x3]
      show av_plus (fv (g1 11)) (fv (g1 8)) = _
      rw [c3, c5]
    refine ⟨g', ?_, r2, r3, ?_⟩
    · show bk_Re_toTotal_10_o _ (bk_Re_toTotal_10 _ n) (wF s g) _ = _
      unfold bk_Re_toTotal_10_o
      rw [sh, ct_ob_s, if_neg y, c1, ct_ob_s, x1, ct_ob_s, wF_put, pi_succ]
      exact r1
    · rw [r4, u11, x3']
      rfl
theorem mt_1 {s : CS} (m a2 : Int32) : ∀ (d n i : Nat) (t : MS) (b : Int32), Lk s t → (b = 0 ∨ b = 1) → i + d = nS s → d < n → ∃ t', me t t' ∧ bk_Mo_total_36 m a2 n t b (Int32.ofNat i) = if b = 1 ∨ udf (resA s m) i d = true then fn_Mo_told t' 2 a2 else bk_Mo_total_92 m a2 200 t' 0 1 0 := by
  intro d
  induction d with
  | zero =>
    intro n i t b h hb hi hn
    obtain ⟨s1, s2, s3, s4, s5, s6, s7⟩ := nS_eq h.1.2.1
    obtain ⟨n, rfl⟩ : ∃ z, n = z + 1 := ⟨n - 1, by omega⟩
    have y : Int32.ofNat (nS s) ≤ Int32.ofNat i := (pi_le (by omega) (by omega)).mpr (by omega)
    refine ⟨t, me.rf, ?_⟩
    show bk_Mo_total_36_o _ _ (bk_Mo_total_36 _ _ n) t b _ = _
    unfold bk_Mo_total_36_o
    rw [mS_eq h.1, ct_ob_s, if_pos y, ob2_some]
    rcases hb with rfl | rfl
    · have n1 : ¬ ((0 : Int32) = 1 ∨ udf (resA s m) i 0 = true) := fun q => by
        rcases q with q | q
        · exact absurd q (by decide)
        · cases q
      rw [if_pos rfl, if_neg n1]
    · rw [if_neg pf_one0, if_pos (Or.inl rfl)]
  | succ d ih =>
    intro n i t b h hb hi hn
    obtain ⟨s1, s2, s3, s4, s5, s6, s7⟩ := nS_eq h.1.2.1
    obtain ⟨n, rfl⟩ : ∃ z, n = z + 1 := ⟨n - 1, by omega⟩
    have y : ¬ Int32.ofNat (nS s) ≤ Int32.ofNat i := fun q => by have := (pi_le (by omega) (by omega)).mp q; omega
    have eu : udf (resA s m) i (d + 1) = (decide ((resA s m i).1 = 2) || udf (resA s m) (i + 1) d) := rfl
    have n01 : ¬ (0 : Int32) = 1 := by decide
    show ∃ t', me t t' ∧ bk_Mo_total_36_o _ _ (bk_Mo_total_36 _ _ n) t b _ = _
    unfold bk_Mo_total_36_o bk_Mo_total_65
    rw [mS_eq h.1, ct_ob_s, if_neg y, pi_succ]
    rcases hb with rfl | rfl
    · obtain ⟨t2, m1, m2, m3⟩ := m_res h m (show i < nS s by omega)
      have z00 : ¬ ¬ (0 : Int32) = 0 := fun q => q rfl
      rw [if_neg z00, m1, ct_ob2_s]
      by_cases c : (resA s m i).1 = 2
      · obtain ⟨t', r1, r2⟩ := ih n (i + 1) t2 1 (h.mq m2.mq) (Or.inr rfl) (by omega) (by omega)
        have n2 : ¬ ¬ (2 : Int32) = 2 := fun q => q rfl
        refine ⟨t', m2.tr r1, ?_⟩
        rw [cd_2 c, if_neg n2, r2, if_pos (Or.inl rfl), eu, decide_eq_true c, Bool.true_or, if_pos (Or.inr rfl)]
      · obtain ⟨t', r1, r2⟩ := ih n (i + 1) t2 0 (h.mq m2.mq) (Or.inl rfl) (by omega) (by omega)
        have n2 : ¬ cd (resA s m i) = 2 := by
          unfold cd
          by_cases c0 : (resA s m i).1 = 0
          · rw [if_pos c0]; decide
          · have c1 : (resA s m i).1 = 1 := by have := res_le h.1 m (show i < nS s by omega); omega
            rw [if_neg c0, if_pos c1]; decide
        refine ⟨t', m2.tr r1, ?_⟩
        rw [if_pos n2, r2, eu, decide_eq_false c, Bool.false_or]
    · obtain ⟨t', r1, r2⟩ := ih n (i + 1) t 1 h (Or.inr rfl) (by omega) (by omega)
      refine ⟨t', r1, ?_⟩
      rw [if_pos pf_one0, r2, if_pos (Or.inl rfl), if_pos (Or.inl rfl)]
theorem mt_2 {s : CS} (m a2 : Int32) : ∀ (d n i : Nat) (t : MS) (up dn : Int64), Lk s t → sp_ok up.toInt dn.toInt → udf (resA s m) i d = false → i + d = nS s → d < n → ∃ t', me t t' ∧ bk_Mo_total_92 m a2 n t up dn (Int32.ofNat i) = fn_Mo_told t' (cd (sumA (resA s m) i d (0, up.toInt, dn.toInt))) a2 ∧ ((sumA (resA s m) i d (0, up.toInt, dn.toInt)).1 = 0 → (ms_L t' 0).toInt = (sumA (resA s m) i d (0, up.toInt, dn.toInt)).2.1 ∧ (ms_L t' 1).toInt = (sumA (resA s m) i d (0, up.toInt, dn.toInt)).2.2) := by
  intro d
  induction d with
  | zero =>
    intro n i t up dn h ho hu hi hn
    obtain ⟨s1, s2, s3, s4, s5, s6, s7⟩ := nS_eq h.1.2.1
    obtain ⟨n, rfl⟩ : ∃ z, n = z + 1 := ⟨n - 1, by omega⟩
    have y : Int32.ofNat (nS s) ≤ Int32.ofNat i := (pi_le (by omega) (by omega)).mpr (by omega)
    refine ⟨ms_L' (ms_L' t 0 up) 1 dn, me.L.tr me.L, ?_, fun _ => ⟨rfl, rfl⟩⟩
    show bk_Mo_total_92_o _ _ (bk_Mo_total_92 _ _ n) t up dn _ = _
    unfold bk_Mo_total_92_o
    rw [mS_eq h.1, ct_ob_s, if_pos y]
    show ct_ob (some (ms_L' (ms_L' t 0 up) 1 dn)) _ = _
    rw [ct_ob_s, ob2_some]
    rfl
  | succ d ih =>
    intro n i t up dn h ho hu hi hn
    obtain ⟨s1, s2, s3, s4, s5, s6, s7⟩ := nS_eq h.1.2.1
    obtain ⟨n, rfl⟩ : ∃ z, n = z + 1 := ⟨n - 1, by omega⟩
    have y : ¬ Int32.ofNat (nS s) ≤ Int32.ofNat i := fun q => by have := (pi_le (by omega) (by omega)).mp q; omega
    obtain ⟨e1, e2⟩ := Bool.or_eq_false_iff.mp (show (decide ((resA s m i).1 = 2) || udf (resA s m) (i + 1) d) = false from hu)
    have n2 : ¬ (resA s m i).1 = 2 := of_decide_eq_false e1
    have hle : ∀ j, j < i + 1 + d → (resA s m j).1 ≤ 2 := fun j hj => res_le h.1 m (by omega)
    obtain ⟨t2, m1, m2, m3⟩ := m_res h m (show i < nS s by omega)
    obtain ⟨o2, v2⟩ := m3 n2
    obtain ⟨t3, p1, p2, p3, p4⟩ := pm_plus (s := t2) (c := up) (d := dn) o2 ho
    have m4 : me t t3 := m2.tr p4.me
    have ev : mv t3 = av_plus (0, up.toInt, dn.toInt) (resA s m i) := by rw [p3, v2, av_plus_comm]
    have es : sumA (resA s m) i (d + 1) (0, up.toInt, dn.toInt) = sumA (resA s m) (i + 1) d (mv t3) := by rw [ev]; rfl
    rw [es]
    show ∃ t', me t t' ∧ bk_Mo_total_92_o _ _ (bk_Mo_total_92 _ _ n) t up dn _ = _ ∧ _
    unfold bk_Mo_total_92_o bk_Mo_total_130
    rw [mS_eq h.1, ct_ob_s, if_neg y, m1, ct_ob2_s, p1, ct_ob_s, ct_nm_eq, ct_nm_eq, pi_succ, ob2_some]
    have long : ¬ ms_I t3 8 = 0 → ∃ t', me t t' ∧ fn_Mo_told t3 3 a2 = fn_Mo_told t' (cd (sumA (resA s m) (i + 1) d (mv t3))) a2 ∧ ((sumA (resA s m) (i + 1) d (mv t3)).1 = 0 → (ms_L t' 0).toInt = (sumA (resA s m) (i + 1) d (mv t3)).2.1 ∧ (ms_L t' 1).toInt = (sumA (resA s m) (i + 1) d (mv t3)).2.2) := fun c8 => by
      have e3 : mv t3 = (1, 0, 0) := if_neg c8
      have e4 : (sumA (resA s m) (i + 1) d (mv t3)).1 = 1 := sumA_1 d (i + 1) _ hle (by rw [e3]) e2
      have e5 : cd (sumA (resA s m) (i + 1) d (mv t3)) = 3 := by
        unfold cd
        rw [e4]
        rfl
      rw [e5]
      exact ⟨t3, m4, rfl, fun q => by omega⟩
    by_cases c0 : (resA s m i).1 = 0
    · have ec : cd (resA s m i) = 0 := if_pos c0
      have z00 : ¬ ¬ (0 : Int32) = 0 := fun q => q rfl
      rw [ec, if_neg z00]
      by_cases c8 : ms_I t3 8 = 0
      · rw [if_pos c8]
        have e3 : mv t3 = (0, (ms_L t3 0).toInt, (ms_L t3 1).toInt) := if_pos c8
        rw [e3]
        obtain ⟨t', r1, r2, r3⟩ := ih n (i + 1) t3 (ms_L t3 0) (ms_L t3 1) (h.mq m4.mq) (mo_fine p2 c8) e2 (by omega) (by omega)
        exact ⟨t', m4.tr r1, r2, r3⟩
      · rw [if_neg c8]
        exact long c8
    · have c1 : (resA s m i).1 = 1 := by have := hle i (by omega); omega
      have ec : cd (resA s m i) = 3 := by
        unfold cd
        rw [if_neg c0, if_pos c1]
      have n3 : ¬ (3 : Int32) = 0 := by decide
      rw [ec, if_pos n3]
      refine long (fun q => ?_)
      have e3 : (mv t3).1 = 0 := by unfold mv; rw [if_pos q]
      rw [ev] at e3
      have e6 : (av_plus (0, up.toInt, dn.toInt) (resA s m i)).1 = max 0 (resA s m i).1 := by
        unfold av_plus av_op
        rw [if_neg (fun q => c0 q.2)]
      omega
theorem PPtotal : PP_total Inv := by
  intro s t h a1 a2 h2
  obtain ⟨s1, s2, s3, s4, s5, s6, s7⟩ := nS_eq h.2.1
  have e3 : a1 ≤ 3 ↔ ¬ 3 < a1 := Int32.not_lt.symm
  have mbad : bk_Mo_total_15 a1 a2 t 1 = some (0, ms_I' t 0 1) := rfl
  unfold fn_CT_total fn_Mo_total
  rw [p_method, ct_ob_s, p_ck, mbad]
  by_cases c1 : a1 < 0
  · rw [if_neg (fun q => q.1 c1), ct_xb_l, if_pos c1]
    exact ⟨_, _, _, rfl, rfl, agl_bad h⟩
  · by_cases c2 : 3 < a1
    · rw [if_neg (fun q => q.2 c2), ct_xb_l, if_neg c1, if_neg (fun q => e3.mp q c2)]
      exact ⟨_, _, _, rfl, rfl, agl_bad h⟩
    · obtain ⟨g, g1, g2⟩ := pr_all h.2.1 a1
      obtain ⟨t', k1, k2, k3, k4⟩ := lk_look (h.thr (v := 0))
      have ok0 : fr_ok (0, 1, 0) := Or.inl ⟨rfl, by show (0 : Int64).toInt.natAbs ≤ _; decide, sp_11.2.1, sp_11.2.2⟩
      have u11 : va_up g 11 (0, 1, 0) 11 = (0, 1, 0) := va_up_self _ _ _
      obtain ⟨g', r1, r2, r3, r4⟩ := ct_loop h a1 (nS s) 200 0 (va_up g 11 (0, 1, 0)) (by omega) (g2.up h.2.1 (by decide)) (ok_eq u11 ok0) (by omega)
      have r1' : bk_Re_toTotal_10 a1 200 (wF s (va_up g 11 (0, 1, 0))) 0 = some (wF s g') := r1
      have r4' : fv (g' 8) = sumA (resA s a1) 0 (nS s) (av_int 0) := by rw [r4, u11]; rfl
      obtain ⟨t2, w1, w2⟩ := mt_1 (s := s) a1 a2 (nS s) 200 0 t' 0 k2 (Or.inl rfl) (by omega) (by omega)
      have w2' : bk_Mo_total_36 a1 a2 200 t' 0 0 = _ := w2
      unfold fn_Re_toTotal bk_Mo_total_15
      rw [if_pos ⟨c1, c2⟩, ct_xb_r, g1, ct_ob_s, pf_whole, ct_ob_s, wF_put, r1', ct_ob_s, xb2_inr, if_neg c1, if_pos (e3.mpr c2), ct_nm_eq, ms_I_self, if_pos rfl, k1, ct_ob_s, w2']
      by_cases cu : udf (resA s a1) 0 (nS s) = true
      · have v2 : (sumA (resA s a1) 0 (nS s) (av_int 0)).1 = 2 := sumA_udf (nS s) 0 _ (fun j hj => res_le h a1 (by omega)) (Nat.zero_le 2) cu
        have key := told_ok (s := s) (g := g') (t := t2) (a3 := a2) ((k2.1.mq w1.mq).wF r2.1) r3 (fun q => by rw [r4', v2] at q; exact absurd q (by decide))
        rw [r4', cd_2 v2] at key
        rw [if_pos (Or.inr cu)]
        exact key
      · have cu' : udf (resA s a1) 0 (nS s) = false := Bool.eq_false_iff.mpr cu
        have n01 : ¬ ((0 : Int32) = 1 ∨ udf (resA s a1) 0 (nS s) = true) := fun q => by
          rcases q with q | q
          · exact absurd q (by decide)
          · exact cu q
        obtain ⟨t3, y1, y2, y3⟩ := mt_2 (s := s) a1 a2 (nS s) 200 0 t2 0 1 (k2.mq w1.mq) ⟨by show (0 : Int64).toInt.natAbs ≤ _; decide, sp_11.2.1, sp_11.2.2⟩ cu' (by omega) (by omega)
        have y2' : bk_Mo_total_92 a1 a2 200 t2 0 1 0 = fn_Mo_told t3 (cd (sumA (resA s a1) 0 (nS s) (av_int 0))) a2 := y2
        have key := told_ok (s := s) (g := g') (t := t3) (a3 := a2) ((k2.1.mq (w1.tr y1).mq).wF r2.1) r3 (fun q => by rw [r4'] at q ⊢; exact y3 q)
        rw [r4'] at key
        rw [if_neg n01, y2']
        exact key
