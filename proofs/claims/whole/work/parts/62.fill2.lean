theorem pe_rep_ge (E : Nat → Bool) (og mo : Nat → Nat) (e : Nat) (h : mo e ≤ 72) : ∀ k, mo e ≤ pe_rep E og mo e k ∧ pe_rep E og mo e k ≤ 72 := by
  intro k
  induction k with
  | zero => exact ⟨h, Nat.le_refl _⟩
  | succ k ih =>
    unfold pe_rep
    by_cases c : (E k = true ∧ og k = og e ∧ (mo e < mo k ∨ (mo k = mo e ∧ e < k))) ∧ mo k < pe_rep E og mo e k
    · rw [if_pos c]
      omega
    · rw [if_neg c]
      exact ih
theorem mth_of {s : CS} (hE : okE s) (hr : iR s) {e : Nat} (he : e < nE s) : cs_A s 2 e = Int32.ofNat (mth s e) ∧ mth s e ≤ 71 ∧ og s e ≤ mth s e ∧ (og s e : Int) = (cs_A s 1 e).toInt ∧ (mth s e : Int) = (cs_A s 2 e).toInt := by
  have hn := pi_nat hr.1.1
  unfold nE at he
  obtain ⟨e1, e2, e3⟩ := hE e (by omega)
  have h1 := pi_nat e1
  have h2 := pi_nat (show 0 ≤ (cs_A s 2 e).toInt by omega)
  unfold mth og
  refine ⟨Int32.toInt.inj ?_, by omega, by omega, h1, h2⟩
  rw [pi_of (by omega), h2]
theorem fl_rep_loop {s : CS} (hE : okE s) (hr : iR s) {e : Nat} (he : e < nE s) (hl : cs_A s 0 e = cs_I s 1) : ∀ (d n k : Nat), k + d = nE s → d < n → bk_Le_replacedIn_5 (Int32.ofNat e) n s (Int32.ofNat (pe_rep (isE s) (og s) (mth s) e k)) (Int32.ofNat k) = some (Int32.ofNat (pe_rep (isE s) (og s) (mth s) e (nE s))) := by
  have hn := pi_nat hr.1.1
  have hn2 := hr.1.2
  have hn3 : cs_I s 0 = Int32.ofNat (nE s) := Int32.toInt.inj (by rw [pi_of (by unfold nE; omega)]; unfold nE; omega)
  have hn4 : nE s ≤ 60 := by unfold nE; omega
  intro d
  induction d with
  | zero =>
    intro n k hk hd
    obtain ⟨n, rfl⟩ : ∃ z, n = z + 1 := ⟨n - 1, by omega⟩
    show bk_Le_replacedIn_5_o (Int32.ofNat e) (bk_Le_replacedIn_5 (Int32.ofNat e) n) s _ (Int32.ofNat k) = _
    unfold bk_Le_replacedIn_5_o
    have h6 : cs_I s 0 ≤ Int32.ofNat k := by rw [hn3]; exact (pi_le (by omega) (by omega)).mpr (by omega)
    rw [if_pos h6, show k = nE s by omega]
  | succ d ih =>
    intro n k hk hd
    obtain ⟨n, rfl⟩ : ∃ z, n = z + 1 := ⟨n - 1, by omega⟩
    show bk_Le_replacedIn_5_o (Int32.ofNat e) (bk_Le_replacedIn_5 (Int32.ofNat e) n) s _ (Int32.ofNat k) = _
    have ih2 := ih n (k + 1) (by omega) (by omega)
    unfold bk_Le_replacedIn_5_o
    have h6 : ¬ cs_I s 0 ≤ Int32.ofNat k := by rw [hn3]; exact fun q => by have := (pi_le (by omega) (by omega)).mp q; omega
    rw [if_neg h6, fl_replaces hE hr he (by omega) hl, ct_ob_s]
    obtain ⟨m1, m2, m3, -, -⟩ := mth_of hE hr (e := k) (by omega)
    obtain ⟨-, m5, -, -, -⟩ := mth_of hE hr (e := e) he
    have hle := (pe_rep_ge (isE s) (og s) (mth s) e (by omega) k).2
    unfold bk_Le_replacedIn_39
    have er : pe_rep (isE s) (og s) (mth s) e (k + 1) = if (isE s k = true ∧ og s k = og s e ∧ (mth s e < mth s k ∨ (mth s k = mth s e ∧ e < k))) ∧ mth s k < pe_rep (isE s) (og s) (mth s) e k then mth s k else pe_rep (isE s) (og s) (mth s) e k := rfl
    rw [er] at ih2
    by_cases c : isE s k = true ∧ og s k = og s e ∧ (mth s e < mth s k ∨ (mth s k = mth s e ∧ e < k))
    · rw [if_pos c, if_neg pf_one0, pi_inR (show k < 60 by omega) (by omega), ct_gd_t, ct_gd_t, ct_nm_eq, pi_cl (by omega), m1, pi_succ]
      by_cases c2 : mth s k < pe_rep (isE s) (og s) (mth s) e k
      · rw [if_pos ⟨c, c2⟩] at ih2
        have h7 : ¬ Int32.ofNat (pe_rep (isE s) (og s) (mth s) e k) ≤ Int32.ofNat (mth s k) := fun q => by have := (pi_le (by omega) (by omega)).mp q; omega
        rw [if_neg h7]
        exact ih2
      · rw [if_neg (fun q => c2 q.2)] at ih2
        have h7 : Int32.ofNat (pe_rep (isE s) (og s) (mth s) e k) ≤ Int32.ofNat (mth s k) := (pi_le (by omega) (by omega)).mpr (by omega)
        rw [if_pos h7]
        exact ih2
    · rw [if_neg c, if_pos rfl, pi_succ]
      rw [if_neg (fun q => c q.1)] at ih2
      exact ih2
theorem fl_rep {s : CS} (hE : okE s) (hr : iR s) {e : Nat} (he : e < nE s) (hl : cs_A s 0 e = cs_I s 1) : fn_Le_replacedIn s (Int32.ofNat e) = some (Int32.ofNat (pe_rep (isE s) (og s) (mth s) e (nE s))) := by
  have hn := pi_nat hr.1.1
  have hn2 := hr.1.2
  exact fl_rep_loop hE hr he hl (nE s) 200 0 (by omega) (by unfold nE; omega)
def hv (s : CS) (o m a b : Nat) (v : Int32) : Int32 := if m / stp s < (cs_I s 4).toNatClampNeg ∧ a = o / stp s ∧ b = m / stp s - o / stp s then v else 0
def con (s : CS) (e a b : Nat) : Int32 := (if isP s e = true then hv s (og s e) (mth s e) a b (cs_A s 3 e) else 0) + (if isE s e = true then (if cs_I s 3 = 0 then 0 else hv s (og s e) (mth s e) a b (cs_A s 3 e) + hv s (og s e) (pe_rep (isE s) (og s) (mth s) e (nE s)) a b (-(cs_A s 3 e))) else 0)
theorem fl_est {s : CS} (hE : okE s) (hr : iR s) {e : Nat} (he : e < nE s) (hl : cs_A s 0 e = cs_I s 1) (R : Nat → Nat → Int32) : ∃ R', fn_Tr_addEstimate (cR s R) (Int32.ofNat e) = some (cR s R') ∧ ∀ a b, R' a b = R a b + (hv s (og s e) (mth s e) a b (cs_A s 3 e) + hv s (og s e) (pe_rep (isE s) (og s) (mth s) e (nE s)) a b (-(cs_A s 3 e))) := by
  have hn := pi_nat hr.1.1
  have hn2 := hr.1.2
  have he2 : e < 60 := by unfold nE at he; omega
  obtain ⟨m1, m2, m3, m4, m5⟩ := mth_of hE hr he
  have hg := pe_rep_ge (isE s) (og s) (mth s) e (by omega) (nE s)
  obtain ⟨R1, h1, h2⟩ := fl_add hr R (a1 := cs_A s 1 e) (a2 := cs_A s 2 e) (a3 := cs_A s 3 e) (by omega) (by omega)
  obtain ⟨R2, h3, h4⟩ := fl_add hr R1 (a1 := cs_A s 1 e) (a2 := Int32.ofNat (pe_rep (isE s) (og s) (mth s) e (nE s))) (a3 := -(cs_A s 3 e)) (by omega) (by rw [pi_of (by omega)]; omega)
  unfold fn_Tr_addEstimate
  rw [pi_inR he2 (by omega), ct_gd_t, ct_nm_eq, ct_gd_t, ct_nm_eq, ct_gd_t, pi_cl (by omega)]
  show ∃ R', (ct_ob (fn_Tr_add (cR s R) (cs_A s 1 e) (cs_A s 2 e) (cs_A s 3 e)) fun s3 => ct_ob (fn_Le_replacedIn s3 (Int32.ofNat e)) fun x4 => ct_ob (fn_Tr_add s3 (cs_A s 1 e) x4 (-(cs_A s 3 e))) fun s5 => some s5) = some (cR s R') ∧ _
  rw [h1, ct_ob_s, fl_rep (s := cR s R1) hE hr he hl, ct_ob_s]
  refine ⟨R2, ?_, fun a b => ?_⟩
  · show ct_ob (fn_Tr_add (cR s R1) (cs_A s 1 e) (Int32.ofNat (pe_rep (isE s) (og s) (mth s) e (nE s))) (-(cs_A s 3 e))) (fun s5 => some s5) = _
    rw [h3]
    rfl
  · rw [h4, h2, pi_cl (by omega), Int32.add_assoc]
    rfl
theorem fl_loop {s : CS} (hE : okE s) (hr : iR s) : ∀ (d n k : Nat) (R : Nat → Nat → Int32), k + d = nE s → d < n → (∀ a b, a < 6 → b < 6 → R a b = pu_s k (fun e => con s e a b)) → ∃ R', bk_Tr_fill_6 n (cR s R) (Int32.ofNat k) = ct_ob (fn_Tr_accumulate (cR s R')) (fun s2 => some s2) ∧ ∀ a b, a < 6 → b < 6 → R' a b = pu_s (nE s) (fun e => con s e a b) := by
  have hn := pi_nat hr.1.1
  have hn2 := hr.1.2
  have hn3 : cs_I s 0 = Int32.ofNat (nE s) := Int32.toInt.inj (by rw [pi_of (by unfold nE; omega)]; unfold nE; omega)
  have hn4 : nE s ≤ 60 := by unfold nE; omega
  intro d
  induction d with
  | zero =>
    intro n k R hk hd hR
    obtain ⟨n, rfl⟩ : ∃ z, n = z + 1 := ⟨n - 1, by omega⟩
    refine ⟨R, ?_, by rw [show nE s = k by omega]; exact hR⟩
    show bk_Tr_fill_6_o (bk_Tr_fill_6 n) (cR s R) (Int32.ofNat k) = _
    unfold bk_Tr_fill_6_o
    have h6 : cs_I (cR s R) 0 ≤ Int32.ofNat k := by show cs_I s 0 ≤ _; rw [hn3]; exact (pi_le (by omega) (by omega)).mpr (by omega)
    rw [if_pos h6]
  | succ d ih =>
    intro n k R hk hd hR
    obtain ⟨n, rfl⟩ : ∃ z, n = z + 1 := ⟨n - 1, by omega⟩
    have next : ∀ R1 : Nat → Nat → Int32, (∀ a b, R1 a b = R a b + con s k a b) → ∃ R', bk_Tr_fill_6 n (cR s R1) (Int32.ofNat k + 1) = ct_ob (fn_Tr_accumulate (cR s R')) (fun s2 => some s2) ∧ ∀ a b, a < 6 → b < 6 → R' a b = pu_s (nE s) (fun e => con s e a b) := by
      intro R1 h1
      rw [pi_succ]
      exact ih n (k + 1) R1 (by omega) (by omega) (fun a b ha hb => by rw [h1, hR a b ha hb]; rfl)
    show ∃ R', bk_Tr_fill_6_o (bk_Tr_fill_6 n) (cR s R) (Int32.ofNat k) = _ ∧ _
    unfold bk_Tr_fill_6_o bk_Tr_fill_76
    have h6 : ¬ cs_I (cR s R) 0 ≤ Int32.ofNat k := by show ¬ cs_I s 0 ≤ _; rw [hn3]; exact fun q => by have := (pi_le (by omega) (by omega)).mp q; omega
    have hk2 : k < nE s := by omega
    obtain ⟨m1, m2, m3, m4, m5⟩ := mth_of hE hr hk2
    rw [if_neg h6, fl_lives (cR s R) (by omega), ct_ob_s]
    by_cases c : ¬ cs_A (cR s R) 5 k = 0 ∧ cs_A (cR s R) 0 k = cs_I (cR s R) 1
    · have cl : lvs s k = true := decide_eq_true c
      rw [if_pos c, if_pos pf_one0, pi_inR (show k < 60 by omega) (by omega), ct_gd_t, pi_cl (by omega)]
      by_cases c4 : cs_A (cR s R) 4 k = 0
      · have c4' : cs_A s 4 k = 0 := c4
        rw [if_neg (fun q => q c4), ct_gd_t, ct_gd_t, ct_gd_t]
        obtain ⟨R1, h1, h2⟩ := fl_add hr R (a1 := cs_A s 1 k) (a2 := cs_A s 2 k) (a3 := cs_A s 3 k) (by omega) (by omega)
        have h1' : fn_Tr_add (cR s R) (cs_A (cR s R) 1 k) (cs_A (cR s R) 2 k) (cs_A (cR s R) 3 k) = some (cR s R1) := h1
        rw [h1', ct_ob_s]
        refine next R1 (fun a b => ?_)
        rw [h2]
        have b1 : isP s k = true := by unfold isP; simp [cl, c4']
        have b2 : isE s k = false := by unfold isE; simp [c4']
        have ec : con s k a b = hv s (og s k) (mth s k) a b (cs_A s 3 k) := by
          unfold con
          rw [b1, b2]
          simp
        rw [ec]
        rfl
      · have c4' : ¬ cs_A s 4 k = 0 := c4
        rw [if_pos c4]
        by_cases c3 : cs_I (cR s R) 3 = 0
        · have c3' : cs_I s 3 = 0 := c3
          rw [if_pos c3]
          refine next R (fun a b => ?_)
          unfold con isP isE
          simp [cl, c4', c3']
        · have c3' : ¬ cs_I s 3 = 0 := c3
          rw [if_neg c3]
          obtain ⟨R1, h1, h2⟩ := fl_est hE hr hk2 c.2 R
          rw [h1, ct_ob_s]
          refine next R1 (fun a b => ?_)
          rw [h2]
          unfold con
          have b1 : isP s k = false := by unfold isP; simp [c4']
          have b2 : isE s k = true := by unfold isE; simp [cl, c4']
          rw [b1, b2]
          simp [c3']
    · have cl : lvs s k = false := decide_eq_false c
      rw [if_neg c, if_neg (fun q => q rfl)]
      refine next R (fun a b => ?_)
      unfold con isP isE
      simp [cl]
