/-! chain and way -/
def chA (f : Nat → AV) : Nat → Nat → AV → AV
  | _, 0, v => v
  | a, d + 1, v => chA f (a + 1) d (av_times v (f a))
def udf (f : Nat → AV) : Nat → Nat → Bool
  | _, 0 => false
  | a, d + 1 => decide ((f a).1 = 2) || udf f (a + 1) d
theorem av_op_2 {f : Int → Int → Int → Int → Option (Int × Int)} {x y : AV} (hx : x.1 ≤ 2) (hy : y.1 ≤ 2) (h : x.1 = 2 ∨ y.1 = 2) : (av_op f x y).1 = 2 := by
  unfold av_op
  have n : ¬ (x.1 = 0 ∧ y.1 = 0) := by omega
  rw [if_neg n]
  show max x.1 y.1 = 2
  omega
theorem av_op_le {f : Int → Int → Int → Int → Option (Int × Int)} {x y : AV} (hx : x.1 ≤ 2) (hy : y.1 ≤ 2) : (av_op f x y).1 ≤ 2 := by
  unfold av_op
  by_cases c : x.1 = 0 ∧ y.1 = 0
  · rw [if_pos c]
    cases f x.2.1 x.2.2 y.2.1 y.2.2
    · exact Nat.le_succ 1
    · exact Nat.zero_le 2
  · rw [if_neg c]
    show max x.1 y.1 ≤ 2
    omega
theorem av_quot_st (a b : Int) : (av_quot a b).1 = 0 ∨ (av_quot a b).1 = 2 := by
  unfold av_quot
  by_cases c : b = 0
  · rw [if_pos c]; exact Or.inr rfl
  · rw [if_neg c]
    by_cases d : b < 0
    · rw [if_pos d]; exact Or.inl rfl
    · rw [if_neg d]; exact Or.inl rfl
theorem lnk_st (s : CS) (m : Int32) (j : Nat) : (lnk s m j).1 = 0 ∨ (lnk s m j).1 = 2 := av_quot_st _ _
theorem chA_2 {f : Nat → AV} (hf : ∀ j, (f j).1 ≤ 2) : ∀ (d a : Nat) (v : AV), v.1 = 2 → (chA f a d v).1 = 2 := by
  intro d
  induction d with
  | zero => intro a v hv; exact hv
  | succ d ih => intro a v hv; exact ih (a + 1) _ (av_op_2 (by omega) (hf a) (Or.inl hv))
theorem chA_udf {f : Nat → AV} (hf : ∀ j, (f j).1 ≤ 2) : ∀ (d a : Nat) (v : AV), v.1 ≤ 2 → udf f a d = true → (chA f a d v).1 = 2 := by
  intro d
  induction d with
  | zero => intro a v hv h; cases h
  | succ d ih =>
    intro a v hv h
    have h' : (decide ((f a).1 = 2) || udf f (a + 1) d) = true := h
    rcases Bool.or_eq_true_iff.mp h' with q | q
    · exact chA_2 hf d (a + 1) _ (av_op_2 hv (hf a) (Or.inr (of_decide_eq_true q)))
    · exact ih (a + 1) _ (av_op_le hv (hf a)) q
theorem Prp.up {s : CS} {m : Int32} {g : Nat → Int64 × Int64 × Int32} {k : Nat} {x : Int64 × Int64 × Int32} (hr : iR s) (h : Prp s m g) (hk : 8 ≤ k) : Prp s m (va_up g k x) := by
  obtain ⟨s1, s2, s3, s4, s5, s6, s7⟩ := nS_eq hr
  exact ⟨fun i hi => by rw [va_up_ne _ _ (by omega)]; exact h.1 i hi, fun j hj => by rw [va_up_ne _ _ (by omega)]; exact h.2 j hj⟩
theorem ch_loop {s : CS} (hr : iR s) {m last a1 : Int32} : ∀ (d n a : Nat) (g : Nat → Int64 × Int64 × Int32), Prp s m g → fr_ok (g 8) → a + d + 1 ≤ nS s → last.toInt = (a : Int) + d - 1 → d < n → ∃ x, bk_Re_chain_10 a1 last n (wF s g) (Int32.ofNat a) = some (wF s (va_up g 8 x)) ∧ fr_ok x ∧ fv x = chA (lnk s m) a d (fv (g 8)) := by
  obtain ⟨s1, s2, s3, s4, s5, s6, s7⟩ := nS_eq hr
  intro d
  induction d with
  | zero =>
    intro n a g hp h8 ha hl hn
    obtain ⟨n, rfl⟩ : ∃ z, n = z + 1 := ⟨n - 1, by omega⟩
    refine ⟨g 8, ?_, h8, rfl⟩
    show bk_Re_chain_10_o _ _ (bk_Re_chain_10 _ _ n) (wF s g) _ = _
    unfold bk_Re_chain_10_o
    have y : last < Int32.ofNat a := by rw [pi_lt32, pi_of (by omega)]; omega
    rw [if_pos y, va_up_same]
  | succ d ih =>
    intro n a g hp h8 ha hl hn
    obtain ⟨n, rfl⟩ : ∃ z, n = z + 1 := ⟨n - 1, by omega⟩
    obtain ⟨l1, l2⟩ := hp.2 a (by omega)
    obtain ⟨x, x1, x2, x3⟩ := pf_times (s := wF s g) (f := 8) (o := 3 + a) h8 l1
    have x3' : fv x = av_times (fv (g 8)) (lnk s m a) := by rw [← l2]; exact x3
    obtain ⟨z, z1, z2, z3⟩ := ih n (a + 1) (va_up g 8 x) (hp.up hr (by omega)) (by rw [va_up_self]; exact x2) (by omega) (by omega) (by omega)
    refine ⟨z, ?_, z2, ?_⟩
    · show bk_Re_chain_10_o _ _ (bk_Re_chain_10 _ _ n) (wF s g) _ = _
      unfold bk_Re_chain_10_o
      have y : ¬ last < Int32.ofNat a := by rw [pi_lt32, pi_of (by omega)]; omega
      rw [va_up_up] at z1
      rw [if_neg y, pi_inR (show a < 5 by omega) (by omega), ct_gd_t, pi_cl (by omega), x1, ct_ob_s, pi_succ, wF_put]
      exact z1
    · rw [z3, va_up_self, x3']
      rfl
theorem sp_11 : sp_ok (1 : Int64).toInt (1 : Int64).toInt := ⟨by decide, by decide, by decide⟩
theorem ch_all {s : CS} (hr : iR s) {m last : Int32} {a d : Nat} {g : Nat → Int64 × Int64 × Int32} (hp : Prp s m g) (ha : a + d + 1 ≤ nS s) (hl : last.toInt = (a : Int) + d - 1) : ∃ x, fn_Re_chain (wF s g) (Int32.ofNat a) last = some (wF s (va_up g 8 x)) ∧ fr_ok x ∧ fv x = chA (lnk s m) a d (av_int 1) := by
  obtain ⟨s1, s2, s3, s4, s5, s6, s7⟩ := nS_eq hr
  have ok1 : fr_ok (1, 1, 0) := Or.inl ⟨rfl, sp_11⟩
  obtain ⟨x, x1, x2, x3⟩ := ch_loop hr (a1 := Int32.ofNat a) d 200 a (va_up g 8 (1, 1, 0)) (hp.up hr (by omega)) (by rw [va_up_self]; exact ok1) ha hl (by omega)
  refine ⟨x, ?_, x2, ?_⟩
  · unfold fn_Re_chain
    rw [va_up_up] at x1
    rw [pf_whole, ct_ob_s, wF_put]
    exact x1
  · rw [x3, va_up_self]
    rfl
def me (t t' : MS) : Prop := t'.2.2 = t.2.2 ∧ ∀ k, k ≠ 8 → ms_I t' k = ms_I t k
theorem me.rf {t : MS} : me t t := ⟨rfl, fun _ _ => rfl⟩
theorem me.tr {a b c : MS} (h1 : me a b) (h2 : me b c) : me a c := ⟨h2.1.trans h1.1, fun k y => (h2.2 k y).trans (h1.2 k y)⟩
theorem me.mq {a b : MS} (h : me a b) : mq a b := ⟨h.1, fun k _ y => h.2 k y⟩
theorem mo_eq.me {a b : MS} (h : mo_eq a b) : me a b := ⟨h.1, h.2.1⟩
theorem me.L {t : MS} {k : Nat} {v : Int64} : me t (ms_L' t k v) := ⟨rfl, fun _ _ => rfl⟩
theorem me.I8 {t : MS} {v : Int32} : me t (ms_I' t 8 v) := ⟨rfl, fun _ h => ms_I_ne h⟩
theorem ad_loop {s : CS} {m last a2 : Int32} : ∀ (d n a : Nat) (t : MS) (b : Int32), Lk s t → (b = 0 ∨ b = 1) → a + d + 1 ≤ nS s → last.toInt = (a : Int) + d - 1 → d < n → ∃ t', bk_Mo_areDefined_6 m a2 last n t b (Int32.ofNat a) = some (if b = 1 ∧ udf (lnk s m) a d = false then 1 else 0, t') ∧ me t t' ∧ ms_I t' 8 = ms_I t 8 := by
  intro d
  induction d with
  | zero =>
    intro n a t b h hb ha hl hn
    obtain ⟨s1, s2, s3, s4, s5, s6, s7⟩ := nS_eq h.1.2.1
    obtain ⟨n, rfl⟩ : ∃ z, n = z + 1 := ⟨n - 1, by omega⟩
    refine ⟨t, ?_, me.rf, rfl⟩
    show bk_Mo_areDefined_6_o _ _ _ (bk_Mo_areDefined_6 _ _ _ n) t b _ = _
    unfold bk_Mo_areDefined_6_o
    have y : last < Int32.ofNat a := by rw [pi_lt32, pi_of (by omega)]; omega
    have e : udf (lnk s m) a 0 = false := rfl
    rw [if_pos y]
    rcases hb with rfl | rfl
    · rfl
    · rfl
  | succ d ih =>
    intro n a t b h hb ha hl hn
    obtain ⟨s1, s2, s3, s4, s5, s6, s7⟩ := nS_eq h.1.2.1
    obtain ⟨n, rfl⟩ : ∃ z, n = z + 1 := ⟨n - 1, by omega⟩
    have eu : udf (lnk s m) a (d + 1) = (decide ((lnk s m a).1 = 2) || udf (lnk s m) (a + 1) d) := rfl
    show ∃ t', bk_Mo_areDefined_6_o _ _ _ (bk_Mo_areDefined_6 _ _ _ n) t b _ = _ ∧ _
    unfold bk_Mo_areDefined_6_o bk_Mo_areDefined_32
    have y : ¬ last < Int32.ofNat a := by rw [pi_lt32, pi_of (by omega)]; omega
    have n01 : ¬ (0 : Int32) = 1 := by decide
    rw [if_neg y, pi_succ]
    rcases hb with rfl | rfl
    · obtain ⟨t', y1, y2, y3⟩ := ih n (a + 1) t 0 h (Or.inl rfl) (by omega) (by omega) (by omega)
      refine ⟨t', ?_, y2, y3⟩
      rw [if_pos rfl, y1, if_neg (fun q => n01 q.1), if_neg (fun q => n01 q.1)]
    · rw [if_neg pf_one0]
      rcases fi_find h m (j := a) (by omega) with ⟨r1, r2⟩ | ⟨r1, x, z, r2, r3, r4⟩
      · obtain ⟨t', y1, y2, y3⟩ := ih n (a + 1) t 0 h (Or.inl rfl) (by omega) (by omega) (by omega)
        refine ⟨t', ?_, y2, y3⟩
        have nu : ¬ ((1 : Int32) = 1 ∧ udf (lnk s m) a (d + 1) = false) := fun q => by
          have q := q.2
          rw [eu, decide_eq_true r1] at q
          cases q
        rw [r2, ct_ob2_s, if_pos rfl, y1, if_neg (fun q => n01 q.1), if_neg nu]
      · have hm : me t (ms_L' (ms_L' t 4 x) 5 z) := me.L.tr me.L
        obtain ⟨t', y1, y2, y3⟩ := ih n (a + 1) (ms_L' (ms_L' t 4 x) 5 z) 1 (h.mq hm.mq) (Or.inr rfl) (by omega) (by omega) (by omega)
        refine ⟨t', ?_, hm.tr y2, y3⟩
        have nd : decide ((lnk s m a).1 = 2) = false := decide_eq_false (by omega)
        rw [r2, ct_ob2_s, if_neg pf_one0, y1, eu, nd, Bool.false_or]
theorem ad_all {s : CS} {t : MS} {m last : Int32} {a d : Nat} (h : Lk s t) (ha : a + d + 1 ≤ nS s) (hl : last.toInt = (a : Int) + d - 1) : ∃ t', fn_Mo_areDefined t m (Int32.ofNat a) last = some (if udf (lnk s m) a d = false then 1 else 0, t') ∧ me t t' ∧ ms_I t' 8 = ms_I t 8 := by
  obtain ⟨s1, s2, s3, s4, s5, s6, s7⟩ := nS_eq h.1.2.1
  obtain ⟨t', y1, y2, y3⟩ := ad_loop (m := m) (a2 := Int32.ofNat a) d 200 a t 1 h (Or.inr rfl) ha hl (by omega)
  refine ⟨t', ?_, y2, y3⟩
  unfold fn_Mo_areDefined
  rw [y1]
  by_cases c : udf (lnk s m) a d = false
  · rw [if_pos ⟨rfl, c⟩, if_pos c]
  · rw [if_neg (fun q => c q.2), if_neg c]
theorem wy_loop {s : CS} {m last a2 : Int32} : ∀ (d n a : Nat) (t : MS), Lk s t → mo_ok t → udf (lnk s m) a d = false → a + d + 1 ≤ nS s → last.toInt = (a : Int) + d - 1 → d < n → ∃ t', bk_Mo_way_9 m a2 last n t (Int32.ofNat a) = some t' ∧ me t t' ∧ ms_L t' 2 = ms_L t 2 ∧ ms_L t' 3 = ms_L t 3 ∧ mo_ok t' ∧ mv t' = chA (lnk s m) a d (mv t) := by
  intro d
  induction d with
  | zero =>
    intro n a t h ho hu ha hl hn
    obtain ⟨s1, s2, s3, s4, s5, s6, s7⟩ := nS_eq h.1.2.1
    obtain ⟨n, rfl⟩ : ∃ z, n = z + 1 := ⟨n - 1, by omega⟩
    refine ⟨t, ?_, me.rf, rfl, rfl, ho, rfl⟩
    show bk_Mo_way_9_o _ _ _ (bk_Mo_way_9 _ _ _ n) t _ = _
    unfold bk_Mo_way_9_o
    have y : last < Int32.ofNat a := by rw [pi_lt32, pi_of (by omega)]; omega
    rw [if_pos y]
  | succ d ih =>
    intro n a t h ho hu ha hl hn
    obtain ⟨s1, s2, s3, s4, s5, s6, s7⟩ := nS_eq h.1.2.1
    obtain ⟨n, rfl⟩ : ∃ z, n = z + 1 := ⟨n - 1, by omega⟩
    have eu : (decide ((lnk s m a).1 = 2) || udf (lnk s m) (a + 1) d) = false := hu
    obtain ⟨eu1, eu2⟩ := Bool.or_eq_false_iff.mp eu
    have nd : ¬ (lnk s m a).1 = 2 := of_decide_eq_false eu1
    show ∃ t', bk_Mo_way_9_o _ _ _ (bk_Mo_way_9 _ _ _ n) t _ = _ ∧ _
    unfold bk_Mo_way_9_o bk_Mo_way_37
    have y : ¬ last < Int32.ofNat a := by rw [pi_lt32, pi_of (by omega)]; omega
    rw [if_neg y, pi_succ]
    rcases fi_find h m (j := a) (by omega) with ⟨r1, r2⟩ | ⟨r1, x, z, r2, r3, r4⟩
    · exact absurd r1 nd
    · have hm : me t (ms_L' (ms_L' t 4 x) 5 z) := me.L.tr me.L
      obtain ⟨t1, p1, p2, p3, p4⟩ := pm_times (s := ms_L' (ms_L' t 4 x) 5 z) (c := x) (d := z) ho r3
      obtain ⟨t', y1, y2, y3, y4, y5, y6⟩ := ih n (a + 1) t1 (h.mq (hm.tr p4.me).mq) p2 eu2 (by omega) (by omega) (by omega)
      refine ⟨t', ?_, (hm.tr p4.me).tr y2, y3.trans (p4.2.2 2 (by decide) (by decide)), y4.trans (p4.2.2 3 (by decide) (by decide)), y5, ?_⟩
      · rw [r2, ct_ob2_s, if_neg pf_one0]
        show ct_ob (fn_Mo_times (ms_L' (ms_L' t 4 x) 5 z) x z) _ = _
        rw [p1, ct_ob_s]
        exact y1
      · rw [y6, p3, r4]
        rfl
theorem wy_all {s : CS} {t : MS} {m last : Int32} {a d : Nat} (h : Lk s t) (h8 : ms_I t 8 = 0) (hu : udf (lnk s m) a d = false) (ha : a + d + 1 ≤ nS s) (hl : last.toInt = (a : Int) + d - 1) : ∃ t', fn_Mo_way t m (Int32.ofNat a) last = some t' ∧ me t t' ∧ ms_L t' 2 = ms_L t 2 ∧ ms_L t' 3 = ms_L t 3 ∧ mo_ok t' ∧ mv t' = chA (lnk s m) a d (av_int 1) := by
  obtain ⟨s1, s2, s3, s4, s5, s6, s7⟩ := nS_eq h.1.2.1
  have hm : me t (ms_L' (ms_L' t 0 1) 1 1) := me.L.tr me.L
  obtain ⟨t', y1, y2, y3, y4, y5, y6⟩ := wy_loop (m := m) (a2 := Int32.ofNat a) d 200 a (ms_L' (ms_L' t 0 1) 1 1) (h.mq hm.mq) (Or.inl ⟨h8, sp_11⟩) hu ha hl (by omega)
  refine ⟨t', ?_, hm.tr y2, y3, y4, y5, ?_⟩
  · unfold fn_Mo_way
    exact y1
  · rw [y6]
    have e : mv (ms_L' (ms_L' t 0 1) 1 1) = av_int 1 := if_pos h8
    rw [e]
