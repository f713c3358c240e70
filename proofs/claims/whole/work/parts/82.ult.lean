/-! the class's ultimate and reserve -/
def lat (s : CS) (i : Nat) : Int32 := cs_R s i (nS s - 1 - i)
def wayA (s : CS) (m : Int32) (i : Nat) : AV := av_times (chA (lnk s m) (nS s - 1 - i) i (av_int 1)) (fv (cs_F s 2))
def ultA (s : CS) (m : Int32) (i : Nat) : AV := if m = 2 then exA s i else if m = 3 then av_plus (av_times (av_plus (av_neg (av_inv (wayA s m i))) (av_int 1)) (exA s i)) (av_int (lat s i).toInt) else av_times (wayA s m i) (av_int (lat s i).toInt)
def resA (s : CS) (m : Int32) (i : Nat) : AV := av_plus (ultA s m i) (av_int (-lat s i).toInt)
def Qf (g g' : Nat → Int64 × Int64 × Int32) : Prop := ∀ k, k ≠ 8 → k ≠ 9 → g' k = g k
theorem Qf.tr {a b c : Nat → Int64 × Int64 × Int32} (h1 : Qf a b) (h2 : Qf b c) : Qf a c := fun k x y => (h2 k x y).trans (h1 k x y)
theorem Qf.u8 {g : Nat → Int64 × Int64 × Int32} {x : Int64 × Int64 × Int32} : Qf g (va_up g 8 x) := fun _ h _ => va_up_ne _ _ h
theorem Qf.u9 {g : Nat → Int64 × Int64 × Int32} {x : Int64 × Int64 × Int32} : Qf g (va_up g 9 x) := fun _ _ h => va_up_ne _ _ h
theorem Prp.qf {s : CS} {m : Int32} {g g' : Nat → Int64 × Int64 × Int32} (hr : iR s) (h : Prp s m g) (q : Qf g g') : Prp s m g' := by
  obtain ⟨s1, s2, s3, s4, s5, s6, s7⟩ := nS_eq hr
  exact ⟨fun i hi => by rw [q _ (by omega) (by omega)]; exact h.1 i hi, fun j hj => by rw [q _ (by omega) (by omega)]; exact h.2 j hj⟩
theorem tl_ok {s : CS} {t : MS} (h : Inv s t) {k : Nat} (hk : k < 3) : fr_ok (cs_F s k) ∧ fv (cs_F s k) = (0, (ms_B t 0 k).toInt, (ms_B t 1 k).toInt) ∧ sp_ok (ms_B t 0 k).toInt (ms_B t 1 k).toInt := by
  obtain ⟨f1, ⟨f2, f3⟩, f4, f5⟩ := h.2.2.2.2.1 k hk
  have o : sp_ok (ms_B t 0 k).toInt (ms_B t 1 k).toInt := ⟨by omega, by omega, by omega⟩
  rw [f1]
  exact ⟨Or.inl ⟨rfl, o⟩, rfl, o⟩
theorem cw_aw {s : CS} {g : Nat → Int64 × Int64 × Int32} {v : Int64} : fn_Re_asWhole (wF s g) v = some (9, wF s (va_up g 9 (v, 1, 0))) := by
  unfold fn_Re_asWhole
  rw [pf_whole, ct_ob_s, wF_put]
theorem w9_ok {g : Nat → Int64 × Int64 × Int32} {v : Int64} (hv : v.toInt.natAbs ≤ 4611686018427387904) : fr_ok (va_up g 9 (v, 1, 0) 9) ∧ fv (va_up g 9 (v, 1, 0) 9) = av_int v.toInt := by
  rw [va_up_self]
  exact ⟨Or.inl ⟨rfl, hv, sp_11.2.1, sp_11.2.2⟩, rfl⟩
theorem ok_eq {a b : Int64 × Int64 × Int32} (e : a = b) (h : fr_ok b) : fr_ok a := by rw [e]; exact h
theorem cw_timesW {s : CS} {g : Nat → Int64 × Int64 × Int32} {v : Int64} (h8 : fr_ok (g 8)) (hv : v.toInt.natAbs ≤ 4611686018427387904) : ∃ g', (∀ K : CS → Option CS, ct_ob2 (fn_Re_asWhole (wF s g) v) (fun x s1 => ct_ob (fn_Fr_times s1 8 x) K) = K (wF s g')) ∧ Qf g g' ∧ fr_ok (g' 8) ∧ fv (g' 8) = av_times (fv (g 8)) (av_int v.toInt) := by
  obtain ⟨o9, v9⟩ := w9_ok (g := g) hv
  have e8 : va_up g 9 (v, 1, 0) 8 = g 8 := va_up_ne _ _ (by decide)
  obtain ⟨x, x1, x2, x3⟩ := pf_times (s := wF s (va_up g 9 (v, 1, 0))) (f := 8) (o := 9) (ok_eq e8 h8) o9
  refine ⟨va_up (va_up g 9 (v, 1, 0)) 8 x, fun K => ?_, Qf.u9.tr Qf.u8, ?_, ?_⟩
  · rw [cw_aw, ct_ob2_s, x1, ct_ob_s, wF_put]
  · rw [va_up_self]; exact x2
  · rw [va_up_self, x3]
    show av_times (fv (va_up g 9 (v, 1, 0) 8)) (fv (va_up g 9 (v, 1, 0) 9)) = _
    rw [e8, v9]
theorem cw_plusW {s : CS} {g : Nat → Int64 × Int64 × Int32} {v : Int64} (h8 : fr_ok (g 8)) (hv : v.toInt.natAbs ≤ 4611686018427387904) : ∃ g', (∀ K : CS → Option CS, ct_ob2 (fn_Re_asWhole (wF s g) v) (fun x s1 => ct_ob (fn_Fr_plus s1 8 x) K) = K (wF s g')) ∧ Qf g g' ∧ fr_ok (g' 8) ∧ fv (g' 8) = av_plus (fv (g 8)) (av_int v.toInt) := by
  obtain ⟨o9, v9⟩ := w9_ok (g := g) hv
  have e8 : va_up g 9 (v, 1, 0) 8 = g 8 := va_up_ne _ _ (by decide)
  obtain ⟨x, x1, x2, x3⟩ := pf_plus (s := wF s (va_up g 9 (v, 1, 0))) (f := 8) (o := 9) (by decide) (ok_eq e8 h8) o9
  refine ⟨va_up (va_up g 9 (v, 1, 0)) 8 x, fun K => ?_, Qf.u9.tr Qf.u8, ?_, ?_⟩
  · rw [cw_aw, ct_ob2_s, x1, ct_ob_s, wF_put]
  · rw [va_up_self]; exact x2
  · rw [va_up_self, x3]
    show av_plus (fv (va_up g 9 (v, 1, 0) 8)) (fv (va_up g 9 (v, 1, 0) 9)) = _
    rw [e8, v9]
theorem cw_times {s : CS} {g : Nat → Int64 × Int64 × Int32} {o : Nat} (h8 : fr_ok (g 8)) (ho : fr_ok (g o)) : ∃ g', fn_Fr_times (wF s g) 8 o = some (wF s g') ∧ Qf g g' ∧ fr_ok (g' 8) ∧ fv (g' 8) = av_times (fv (g 8)) (fv (g o)) := by
  obtain ⟨x, x1, x2, x3⟩ := pf_times (s := wF s g) (f := 8) (o := o) h8 ho
  refine ⟨va_up g 8 x, x1, Qf.u8, ?_, ?_⟩
  · rw [va_up_self]; exact x2
  · rw [va_up_self]; exact x3
theorem i64_bd (x : Int32) : x.toInt64.toInt.natAbs ≤ 4611686018427387904 := by
  have e : x.toInt64.toInt = x.toInt := Int32.toInt_toInt64 _
  have b1 := pa_hi32 x
  have b2 := pa_lo32 x
  omega
theorem c_lat {s : CS} (hr : iR s) {g : Nat → Int64 × Int64 × Int32} {i : Nat} (hi : i < nS s) : fn_Tr_latestOf (wF s g) (Int32.ofNat i) = some (lat s i) := by
  obtain ⟨s1, s2, s3, s4, s5, s6, s7⟩ := nS_eq hr
  have e : fn_Tr_shown (wF s g) = some (Int32.ofNat (nS s)) := cS_eq hr
  unfold fn_Tr_latestOf
  rw [e, pi_inR (show i < 6 by omega) (by omega), ct_gd_t, ct_ob_s, pi_sub1 (by omega), pi_sub (by omega), pi_inR (show nS s - 1 - i < 6 by omega) (by omega), ct_gd_t, pi_cl (by omega), pi_cl (by omega)]
  rfl
theorem c_blend {s : CS} (hr : iR s) {g : Nat → Int64 × Int64 × Int32} {i : Nat} (hi : i < nS s) (h8 : fr_ok (g 8)) (h10 : fr_ok (g 10)) : ∃ g', fn_Re_blend (wF s g) (Int32.ofNat i) = some (wF s g') ∧ Qf g g' ∧ fr_ok (g' 8) ∧ fv (g' 8) = av_plus (av_times (av_plus (av_neg (av_inv (fv (g 8)))) (av_int 1)) (fv (g 10))) (av_int (lat s i).toInt) := by
  obtain ⟨x, x1, x2, x3⟩ := pf_inv (s := wF s g) (f := 8) h8
  have u8 : va_up g 8 x 8 = x := va_up_self _ _ _
  obtain ⟨y, y1, y2, y3⟩ := pf_neg (s := wF s (va_up g 8 x)) (f := 8) (ok_eq u8 x2)
  have y3' : fv y = av_neg (fv x) := by
    rw [y3]
    show av_neg (fv (va_up g 8 x 8)) = _
    rw [u8]
  have u8' : va_up (va_up g 8 x) 8 y 8 = y := va_up_self _ _ _
  obtain ⟨g1, a1, a2, a3, a4⟩ := cw_plusW (s := s) (g := va_up (va_up g 8 x) 8 y) (v := 1) (ok_eq u8' y2) (by decide)
  have e10 : g1 10 = g 10 := by rw [a2 10 (by decide) (by decide), va_up_ne _ _ (by decide), va_up_ne _ _ (by decide)]
  obtain ⟨g2, b1, b2, b3, b4⟩ := cw_times (s := s) (g := g1) (o := 10) a3 (ok_eq e10 h10)
  obtain ⟨g3, c1, c2, c3, c4⟩ := cw_plusW (s := s) (g := g2) (v := (lat s i).toInt64) b3 (i64_bd _)
  refine ⟨g3, ?_, ((Qf.u8.tr Qf.u8).tr a2).tr (b2.tr c2), c3, ?_⟩
  · unfold fn_Re_blend
    rw [x1, ct_ob_s, wF_put, y1, ct_ob_s, wF_put, a1, b1, ct_ob_s, c_lat hr hi, ct_ob_s, c1]
  · have e1 : (1 : Int64).toInt = 1 := rfl
    have e2 : (lat s i).toInt64.toInt = (lat s i).toInt := Int32.toInt_toInt64 _
    rw [c4, b4, a4, e10, u8', y3', x3, e1, e2]
    rfl
theorem c_ult {s : CS} {t : MS} (h : Inv s t) {m : Int32} {g : Nat → Int64 × Int64 × Int32} (hp : Prp s m g) {i : Nat} (hi : i < nS s) : ∃ g', fn_Re_toUltimate (wF s g) m (Int32.ofNat i) = some (wF s g') ∧ Prp s m g' ∧ g' 11 = g 11 ∧ fr_ok (g' 8) ∧ fv (g' 8) = ultA s m i := by
  have hr := h.2.1
  obtain ⟨s1, s2, s3, s4, s5, s6, s7⟩ := nS_eq hr
  have l2 : (2 : Int32).toInt = 2 := rfl
  have sh : ∀ g, fn_Tr_shown (wF s g) = some (Int32.ofNat (nS s)) := fun g => cS_eq hr
  have sz : (Int32.ofNat (nS s) - 2).toInt = ((nS s - 1 - i : Nat) : Int) + (i : Nat) - 1 := by rw [Int32.toInt_sub, pi_of (by omega), l2, pa_bm32 (by omega) (by omega)]; omega
  obtain ⟨x, x1, x2, x3⟩ := ex_c h hp.1 (show i < 6 by omega)
  have e64 : (lat s i).toInt64.toInt = (lat s i).toInt := Int32.toInt_toInt64 _
  have way : ∀ g, Prp s m g → ∃ g', ct_ob (fn_Re_chain (wF s g) (Int32.ofNat (nS s) - 1 - Int32.ofNat i) (Int32.ofNat (nS s) - 2)) (fun s4 => fn_Fr_times s4 8 2) = some (wF s g') ∧ Qf g g' ∧ fr_ok (g' 8) ∧ fv (g' 8) = wayA s m i := by
    intro g hp
    obtain ⟨y, y1, y2, y3⟩ := ch_all hr (a := nS s - 1 - i) (d := i) hp (by omega) sz
    have u8 : va_up g 8 y 8 = y := va_up_self _ _ _
    have u2 : va_up g 8 y 2 = cs_F s 2 := (va_up_ne _ _ (by decide)).trans (hp.1 2 (by decide))
    obtain ⟨g1, a1, a2, a3, a4⟩ := cw_times (s := s) (g := va_up g 8 y) (o := 2) (ok_eq u8 y2) (ok_eq u2 (tl_ok h (by decide)).1)
    refine ⟨g1, ?_, Qf.u8.tr a2, a3, ?_⟩
    · rw [pi_sub1 (by omega), pi_sub (by omega), y1, ct_ob_s, a1]
    · rw [a4, u8, u2, y3]
      rfl
  have split : ∀ {β : Type} (q : Option CS) (K : CS → Option β), ct_ob q (fun s4 => ct_ob (fn_Fr_times s4 8 2) K) = ct_ob (ct_ob q fun s4 => fn_Fr_times s4 8 2) K := by
    intro β q K
    cases q <;> rfl
  unfold fn_Re_toUltimate bk_Re_toUltimate_10 bk_Re_toUltimate_15
  by_cases m2 : m = 2
  · have eu : ultA s m i = exA s i := if_pos m2
    rw [if_pos m2, x1, ct_ob_s, if_neg (fun q => q m2), pf_copy (by decide), ct_ob_s, wF_put]
    refine ⟨_, rfl, (hp.up hr (by decide)).up hr (by decide), ?_, ?_, ?_⟩
    · rw [va_up_ne _ _ (by decide), va_up_ne _ _ (by decide)]
    · rw [va_up_self]
      show fr_ok (va_up g 10 x 10)
      rw [va_up_self]; exact x2
    · rw [va_up_self, eu]
      show fv (va_up g 10 x 10) = _
      rw [va_up_self]; exact x3
  · rw [if_neg m2]
    by_cases m3 : m = 3
    · have hp2 : Prp s m (va_up g 10 x) := hp.up hr (by decide)
      obtain ⟨g1, a1, a2, a3, a4⟩ := way _ hp2
      have e10 : g1 10 = x := (a2 10 (by decide) (by decide)).trans (va_up_self _ _ _)
      obtain ⟨g2, b1, b2, b3, b4⟩ := c_blend hr hi a3 (ok_eq e10 x2)
      rw [if_neg (fun q => q m3), x1, ct_ob_s, if_pos m2, sh, ct_ob_s, ct_ob_s, split, a1, ct_ob_s, if_neg (fun q => q m3), b1, ct_ob_s]
      refine ⟨g2, rfl, (hp2.qf hr a2).qf hr b2, ?_, b3, ?_⟩
      · rw [b2 11 (by decide) (by decide), a2 11 (by decide) (by decide), va_up_ne _ _ (by decide)]
      · rw [b4, a4, e10, x3]
        unfold ultA
        rw [if_neg m2, if_pos m3]
    · obtain ⟨g1, a1, a2, a3, a4⟩ := way _ hp
      obtain ⟨g2, b1, b2, b3, b4⟩ := cw_timesW (s := s) (g := g1) (v := (lat s i).toInt64) a3 (i64_bd _)
      rw [if_pos m3, if_pos m2, sh, ct_ob_s, ct_ob_s, split, a1, ct_ob_s, if_pos m3, c_lat hr hi, ct_ob_s, b1]
      refine ⟨g2, rfl, (hp.qf hr a2).qf hr b2, ?_, b3, ?_⟩
      · rw [b2 11 (by decide) (by decide), a2 11 (by decide) (by decide)]
      · rw [b4, a4, e64]
        unfold ultA
        rw [if_neg m2, if_neg m3]
theorem c_res {s : CS} {t : MS} (h : Inv s t) {m : Int32} {g : Nat → Int64 × Int64 × Int32} (hp : Prp s m g) {i : Nat} (hi : i < nS s) : ∃ g', fn_Re_toReserve (wF s g) m (Int32.ofNat i) = some (wF s g') ∧ Prp s m g' ∧ g' 11 = g 11 ∧ fr_ok (g' 8) ∧ fv (g' 8) = resA s m i := by
  obtain ⟨g1, a1, a2, a3, a4, a5⟩ := c_ult h hp hi
  obtain ⟨g2, b1, b2, b3, b4⟩ := cw_plusW (s := s) (g := g1) (v := (-lat s i).toInt64) a4 (i64_bd _)
  have e64 : (-lat s i).toInt64.toInt = (-lat s i).toInt := Int32.toInt_toInt64 _
  refine ⟨g2, ?_, a2.qf h.2.1 b2, (b2 11 (by decide) (by decide)).trans a3, b3, ?_⟩
  · unfold fn_Re_toReserve
    rw [a1, ct_ob_s, c_lat h.2.1 hi, ct_ob_s, b1]
  · rw [b4, a5, e64]
    rfl
