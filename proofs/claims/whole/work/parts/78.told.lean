/-! what is told at the end; factor -/
def mq (t t' : MS) : Prop := t'.2.2 = t.2.2 ∧ ∀ k, k ≠ 0 → k ≠ 8 → ms_I t' k = ms_I t k
theorem mq.rf {t : MS} : mq t t := ⟨rfl, fun _ _ _ => rfl⟩
theorem mq.tr {a b c : MS} (h1 : mq a b) (h2 : mq b c) : mq a c := ⟨h2.1.trans h1.1, fun k x y => (h2.2 k x y).trans (h1.2 k x y)⟩
theorem mo_eq.mq {a b : MS} (h : mo_eq a b) : mq a b := ⟨h.1, fun k _ y => h.2.1 k y⟩
theorem mq.L {t : MS} {k : Nat} {v : Int64} : mq t (ms_L' t k v) := ⟨rfl, fun _ _ _ => rfl⟩
theorem mq.I8 {t : MS} {v : Int32} : mq t (ms_I' t 8 v) := ⟨rfl, fun _ _ h => ms_I_ne h⟩
theorem mq.I0 {t : MS} {v : Int32} : mq t (ms_I' t 0 v) := ⟨rfl, fun _ h _ => ms_I_ne h⟩
theorem Inv.mq {s : CS} {t t' : MS} (h : Inv s t) (q : mq t t') : Inv s t' := by
  obtain ⟨⟨h1, h2, h3, h4, h5, h6, h7⟩, hr⟩ := h
  refine ⟨⟨h1.trans (q.2 1 (by decide) (by decide)).symm, h2.trans (q.2 2 (by decide) (by decide)).symm, h3.trans (q.2 3 (by decide) (by decide)).symm, h4.trans (q.2 4 (by decide) (by decide)).symm, h5.trans (q.2 5 (by decide) (by decide)).symm, h6.trans (q.2 6 (by decide) (by decide)).symm, h7.trans (q.2 7 (by decide) (by decide)).symm⟩, ?_⟩
  obtain ⟨ti, tl, tx⟩ := t
  obtain ⟨ui, ul, ux⟩ := t'
  have e : ux = tx := q.1
  subst e
  exact hr
theorem Lk.mq {s : CS} {t t' : MS} (h : Lk s t) (q : mq t t') : Lk s t' := ⟨h.1.mq q, fun i j hij => by
  show t'.2.2.1 8 _ = _
  rw [q.1]
  exact h.2 i j hij⟩
theorem pf_copy {s : CS} {f k : Nat} (h : k ≠ f) : fn_Fr_copy s f k = some (cs_F' s f (cs_F s k)) := by
  unfold fn_Fr_copy
  have e0 : cs_F0' s f (cs_F s k).1 = cs_F' s f ((cs_F s k).1, (cs_F s f).2.1, (cs_F s f).2.2) := rfl
  rw [ct_nm_eq, ct_nm_eq, ct_nm_eq, e0, cs_F_ne h, cs_F1_at, cs_F_ne h, cs_F2_at]
theorem pf_whole {s : CS} {f : Nat} {v : Int64} : fn_Fr_becomeWhole s f v = some (cs_F' s f (v, 1, 0)) := by
  unfold fn_Fr_becomeWhole
  rw [ct_nm_eq, ct_nm_eq, ct_nm_eq, F_put3]
def cd (v : AV) : Int32 := if v.1 = 0 then 0 else if v.1 = 1 then 3 else 2
theorem told_ok {s : CS} {g : Nat → Int64 × Int64 × Int32} {t : MS} {a3 : Int32} (hI : Inv (wF s g) t) (hf : fr_ok (g 8)) (hv : (fv (g 8)).1 = 0 → (ms_L t 0).toInt = (fv (g 8)).2.1 ∧ (ms_L t 1).toInt = (fv (g 8)).2.2) : ∃ o r t9, fn_CT_partOfAnswer (wF s g) a3 = some o ∧ fn_Mo_told t (cd (fv (g 8))) a3 = some (r, t9) ∧ AgL Inv (fun k => k = 1 ∨ k = 3 ∨ k = 4) o r t9 := by
  unfold fn_CT_partOfAnswer fn_CT_checkAnswer fn_Mo_told
  have e8 : cs_F (wF s g) 8 = g 8 := rfl
  rw [e8, ct_nm_eq]
  obtain ⟨a, b, st, hg⟩ : ∃ a b st, g 8 = (a, b, st) := ⟨_, _, _, rfl⟩
  rw [hg] at hf hv ⊢
  have hs : st = 0 ∨ st = 1 ∨ st = 2 := pf_st hf
  rcases hs with rfl | rfl | rfl
  · have n2 : ¬ (0 : Int32) = 2 := by decide
    have n1 : ¬ (0 : Int32) = 1 := by decide
    obtain ⟨v1, v2⟩ := hv rfl
    have w1 : ms_L t 0 = a := Int64.toInt.inj v1
    have w2 : ms_L t 1 = b := Int64.toInt.inj v2
    have ec : cd (fv (a, b, 0)) = 0 := rfl
    rw [if_pos n2, if_pos n1, ct_xb_r, ec, if_pos rfl, e8, hg]
    by_cases c : a3 = 0
    · rw [if_pos c, if_pos c]
      exact ⟨_, _, _, rfl, rfl, fun k s1 q => (by cases q), rfl, hI.thr, fun v s1 q => (by cases q; exact w1.symm)⟩
    · rw [if_neg c, if_neg c]
      exact ⟨_, _, _, rfl, rfl, fun k s1 q => (by cases q), rfl, hI.thr, fun v s1 q => (by cases q; exact w2.symm)⟩
  · have n2 : ¬ (1 : Int32) = 2 := by decide
    have n1 : ¬ ¬ (1 : Int32) = 1 := fun q => q rfl
    have ec : cd (fv (a, b, 1)) = 3 := rfl
    have n3 : ¬ (3 : Int32) = 0 := by decide
    rw [if_pos n2, if_neg n1, ct_xb_l, ec, if_neg n3]
    exact ⟨_, _, _, rfl, rfl, fun k s1 q => (by cases q; exact Or.inr (Or.inr rfl)), rfl, hI.thr, fun v s1 q => (by cases q)⟩
  · have n2 : ¬ ¬ (2 : Int32) = 2 := fun q => q rfl
    have ec : cd (fv (a, b, 2)) = 2 := rfl
    have n3 : ¬ (2 : Int32) = 0 := by decide
    rw [if_neg n2, ct_xb_l, ec, if_neg n3]
    exact ⟨_, _, _, rfl, rfl, fun k s1 q => (by cases q; exact Or.inr (Or.inl rfl)), rfl, hI.thr, fun v s1 q => (by cases q)⟩
def okA (a : Int32) : Prop := a = 0 ∨ a = 1
theorem p_chain (a : Int32) : (okA a → fn_CT_isChain a = some 1 ∧ ¬ a < 0 ∧ ¬ 1 < a) ∧ (¬ okA a → fn_CT_isChain a = some 0 ∧ (a < 0 ∨ 1 < a)) := by
  unfold fn_CT_isChain
  refine ⟨fun h => ?_, fun h => ?_⟩
  · rcases h with rfl | rfl <;> decide
  · have h0 : ¬ a = 0 := fun q => h (Or.inl q)
    have h1 : ¬ a = 1 := fun q => h (Or.inr q)
    refine ⟨by rw [if_neg h0, if_pos h1], ?_⟩
    rw [pi_lt32, pi_lt32, l0, l1]
    have k0 : ¬ a.toInt = 0 := fun q => h0 (Int32.toInt.inj q)
    have k1 : ¬ a.toInt = 1 := fun q => h1 (Int32.toInt.inj q)
    omega
theorem PPfactor : PP_factor Inv := by
  intro s t h a1 a2 a3 h3
  obtain ⟨s1, s2, s3, s4, s5, s6, s7⟩ := nS_eq h.2.1
  have cbad : bk_CT_factor_29 a1 a2 a3 s 0 = some (.inl (1, s)) := rfl
  have mbad : bk_Mo_factor_29 a1 a2 a3 t 1 = some (0, ms_I' t 0 1) := rfl
  have l2 : (2 : Int32).toInt = 2 := rfl
  have sz : (Int32.ofNat (nS s) - 2).toInt = nS s - 2 := by rw [Int32.toInt_sub, pi_of (by omega), l2, pa_bm32 (by omega) (by omega)]
  unfold fn_CT_factor fn_Mo_factor
  rw [cbad, mbad, cS_eq h.2.1, ct_ob_s, mS_eq h, ct_ob_s, p_within, ct_ob_s]
  by_cases ca : okA a1
  · obtain ⟨c1, c2, c3⟩ := (p_chain a1).1 ca
    rw [c1, ct_ob_s, if_neg pf_one0, if_neg c2, if_neg c3]
    by_cases d1 : a2 < 0
    · have n : ¬ (¬ a2 < 0 ∧ ¬ Int32.ofNat (nS s) - 2 < a2) := fun q => q.1 d1
      rw [if_neg n, if_pos rfl, if_pos d1]
      exact ⟨_, _, _, rfl, rfl, agl_bad h⟩
    · by_cases d2 : a2 ≤ Int32.ofNat (nS s) - 2
      · have d3 : ¬ a2 < 0 ∧ ¬ Int32.ofNat (nS s) - 2 < a2 := ⟨d1, fun q => (Int32.not_lt.mpr d2) q⟩
        rw [if_pos d3, if_neg pf_one0, if_neg d1, if_pos d2]
        rw [pi_lt32, l0] at d1
        rw [pi_le32, sz] at d2
        obtain ⟨j, rfl, j1, j2⟩ := pi_ex (x := a2) (by omega)
        obtain ⟨t', k1, k2, k3, k4⟩ := lk_look (h.thr (v := 0))
        obtain ⟨g, g1, g2, g3⟩ := pr_all h.2.1 a1
        have x1 : fn_CT_check s 1 = some (.inr s) := rfl
        obtain ⟨f1, f2⟩ := g3 j (by omega)
        unfold bk_CT_factor_29 bk_Mo_factor_29 fn_Re_toLink bk_Mo_factor_76
        rw [x1, ct_xb_r, g1, ct_ob_s, pi_inR (show j < 5 by omega) (by omega), ct_gd_t, pi_cl (by omega), pf_copy (by omega), ct_ob_s, ct_ob_s, wF_put, xb2_inr, ct_nm_eq, ms_I_self, if_pos rfl, k1, ct_ob_s]
        have e8 : va_up g 8 (cs_F (wF s g) (3 + j)) 8 = g (3 + j) := va_up_self _ _ _
        have hI : ∀ t'', mq t' t'' → Inv (wF s (va_up g 8 (cs_F (wF s g) (3 + j)))) t'' := fun t'' q => (k2.1.mq q).wF (fun k hk => by rw [va_up_ne _ _ (by omega)]; exact g2 k hk)
        rcases fi_find k2 a1 (j := j) (by omega) with ⟨r1, r2⟩ | ⟨r1, x, y, r2, r3, r4⟩
        · rw [r2, ct_ob2_s]
          show ∃ o r t9, _ ∧ ct_ob (some (ms_L' (ms_L' t' 0 (ms_L t' 4)) 1 (ms_L t' 5))) _ = _ ∧ _
          rw [ct_ob_s, if_pos rfl, ob2_some]
          have key := told_ok (a3 := a3) (hI _ ((mq.L (k := 0) (v := ms_L t' 4)).tr (mq.L (k := 1) (v := ms_L t' 5)))) (by rw [e8]; exact f1) (fun q => by rw [e8, f2, r1] at q; exact absurd q (by decide))
          have ec : cd (fv (va_up g 8 (cs_F (wF s g) (3 + j)) 8)) = 2 := by
            rw [e8, f2]
            unfold cd
            rw [r1]
            rfl
          rw [ec] at key
          exact key
        · rw [r2, ct_ob2_s]
          show ∃ o r t9, _ ∧ ct_ob (some (ms_L' (ms_L' (ms_L' (ms_L' t' 4 x) 5 y) 0 x) 1 y)) _ = _ ∧ _
          rw [ct_ob_s, if_neg pf_one0, ob2_some]
          have key := told_ok (a3 := a3) (t := ms_L' (ms_L' (ms_L' (ms_L' t' 4 x) 5 y) 0 x) 1 y) (hI _ (((mq.L.tr mq.L).tr mq.L).tr mq.L)) (by rw [e8]; exact f1) (fun q => by rw [e8, f2, ← r4]; exact ⟨rfl, rfl⟩)
          have ec : cd (fv (va_up g 8 (cs_F (wF s g) (3 + j)) 8)) = 0 := by
            rw [e8, f2]
            unfold cd
            rw [r1]
            rfl
          rw [ec] at key
          exact key
      · have n : ¬ (¬ a2 < 0 ∧ ¬ Int32.ofNat (nS s) - 2 < a2) := fun q => d2 (Int32.not_lt.mp q.2)
        rw [if_neg n, if_pos rfl, if_neg d1, if_neg d2]
        exact ⟨_, _, _, rfl, rfl, agl_bad h⟩
  · obtain ⟨c1, c2⟩ := (p_chain a1).2 ca
    rw [c1, ct_ob_s, if_pos rfl]
    by_cases c3 : a1 < 0
    · rw [if_pos c3]
      exact ⟨_, _, _, rfl, rfl, agl_bad h⟩
    · have c4 : 1 < a1 := by rcases c2 with q | q; exact absurd q c3; exact q
      rw [if_neg c3, if_pos c4]
      exact ⟨_, _, _, rfl, rfl, agl_bad h⟩
