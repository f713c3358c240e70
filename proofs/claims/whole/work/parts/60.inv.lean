/-! the invariant between class and reference, and the calls that need no reckoning -/
def og (s : CS) (e : Nat) : Nat := (cs_A s 1 e).toNatClampNeg
def mth (s : CS) (e : Nat) : Nat := (cs_A s 2 e).toNatClampNeg
def lvs (s : CS) (e : Nat) : Bool := decide (¬ cs_A s 5 e = 0 ∧ cs_A s 0 e = cs_I s 1)
def isP (s : CS) (e : Nat) : Bool := lvs s e && decide (cs_A s 4 e = 0)
def isE (s : CS) (e : Nat) : Bool := lvs s e && decide (¬ cs_A s 4 e = 0)
def nE (s : CS) : Nat := (cs_I s 0).toNatClampNeg
def stp (s : CS) : Nat := (cs_I s 2).toNatClampNeg
def cellS (s : CS) (i j : Nat) : Int32 :=
  pu_s (nE s) (fun e => if isP s e = true ∧ og s e / stp s = i ∧ mth s e < (i + j + 1) * stp s then cs_A s 3 e else 0) + (if cs_I s 3 = 0 then 0 else pu_s (stp s) (fun k => match pe_best (isE s) (og s) (mth s) (i * stp s + k) ((i + j + 1) * stp s) (nE s) with
    | none => 0
    | some f => cs_A s 3 f))
def iS (s : CS) (t : MS) : Prop := cs_I s 0 = ms_I t 1 ∧ cs_I s 1 = ms_I t 2 ∧ cs_I s 2 = ms_I t 3 ∧ cs_I s 3 = ms_I t 4 ∧ cs_I s 4 = ms_I t 5 ∧ cs_I s 5 = ms_I t 6 ∧ cs_I s 6 = ms_I t 7
def iR (s : CS) : Prop := (0 ≤ (cs_I s 0).toInt ∧ (cs_I s 0).toInt ≤ 60) ∧ (0 ≤ (cs_I s 1).toInt ∧ (cs_I s 1).toInt ≤ 1) ∧ (1 ≤ (cs_I s 2).toInt ∧ (cs_I s 2).toInt ≤ 12) ∧ (cs_I s 3 = 0 ∨ cs_I s 3 = 1) ∧ (1 ≤ (cs_I s 4).toInt ∧ (cs_I s 4).toInt ≤ 6) ∧ (0 ≤ (cs_I s 5).toInt ∧ (cs_I s 5).toInt < (cs_I s 4).toInt) ∧ (1 ≤ (cs_I s 6).toInt ∧ (cs_I s 6).toInt ≤ 6)
def iE (s : CS) (t : MS) : Prop := ∀ e : Nat, (e : Int) < (cs_I s 0).toInt → (cs_A s 0 e = ms_A t 0 e ∧ cs_A s 1 e = ms_A t 1 e ∧ cs_A s 2 e = ms_A t 2 e ∧ cs_A s 3 e = ms_A t 3 e) ∧ (0 ≤ (cs_A s 1 e).toInt ∧ (cs_A s 1 e).toInt ≤ (cs_A s 2 e).toInt ∧ (cs_A s 2 e).toInt ≤ 71) ∧ ((cs_A s 4 e = 0 ∧ ms_A t 4 e = 1) ∨ (cs_A s 4 e = 1 ∧ ms_A t 4 e = 0)) ∧ ((cs_A s 5 e = 1 ∧ ms_A t 5 e = 0) ∨ (cs_A s 5 e = 0 ∧ ms_A t 5 e = 1))
def iP (s : CS) (t : MS) : Prop := ∀ l o : Nat, l < 2 → o < 72 → cs_P s l o = ms_A t 6 (72 * l + o) ∧ 0 ≤ (cs_P s l o).toInt ∧ (cs_P s l o).toInt ≤ 9999
def iF (s : CS) (t : MS) : Prop := ∀ k : Nat, k < 3 → cs_F s k = (ms_B t 0 k, ms_B t 1 k, 0) ∧ (0 ≤ (ms_B t 0 k).toInt ∧ (ms_B t 0 k).toInt ≤ 9999) ∧ (1 ≤ (ms_B t 1 k).toInt ∧ (ms_B t 1 k).toInt ≤ 9999)
def iO (s : CS) (t : MS) : Prop := ∀ k : Nat, k < 36 → cs_A s 6 k = ms_A t 7 k ∧ (cs_A s 6 k = 0 ∨ cs_A s 6 k = 1)
def iC (s : CS) : Prop := ∀ i j : Nat, ((i + j : Nat) : Int) < (cs_I s 4).toInt → cs_R s i j = cellS s i j
def Inv (s : CS) (t : MS) : Prop := iS s t ∧ iR s ∧ iE s t ∧ iP s t ∧ iF s t ∧ iO s t ∧ iC s
theorem Inv.thr {s : CS} {t : MS} {v : Int32} (h : Inv s t) : Inv s (ms_I' t 0 v) := h
theorem p_within (a lo hi : Int32) : fn_CT_within a lo hi = some (if ¬ a < lo ∧ ¬ hi < a then 1 else 0) := by
  unfold fn_CT_within
  by_cases h : a < lo <;> by_cases g : hi < a <;> simp [h, g]
theorem p_check (s : CS) (b : Int32) : fn_CT_check s b = some (if b = 0 then .inl (1, s) else .inr s) := by
  unfold fn_CT_check
  by_cases h : b = 0 <;> simp [h]
theorem p_ck (s : CS) (c : Prop) [Decidable c] : fn_CT_check s (if c then 1 else 0) = some (if c then .inr s else .inl (1, s)) := by
  rw [p_check]
  by_cases h : c <;> simp [h]
theorem p_isLine (a : Int32) : fn_CT_isLine a = some (if ¬ a < 0 ∧ ¬ 1 < a then 1 else 0) := by
  unfold fn_CT_isLine
  rw [p_within, ct_ob_s]
  by_cases h : ¬ a < 0 ∧ ¬ 1 < a
  · rw [if_pos h]; rfl
  · rw [if_neg h]; rfl
theorem p_noLine (a : Int32) : fn_Mo_noLine a = some (if ¬ a < 0 ∧ ¬ 1 < a then 0 else 1) := by
  unfold fn_Mo_noLine
  have e : a ≤ 1 ↔ ¬ 1 < a := Int32.not_lt.symm
  by_cases h : a < 0 <;> by_cases g : 1 < a <;> simp [h, g, e]
theorem pi_le32 {a b : Int32} : a ≤ b ↔ a.toInt ≤ b.toInt := Int32.le_iff_toInt_le
theorem pi_lt32 {a b : Int32} : a < b ↔ a.toInt < b.toInt := Int32.lt_iff_toInt_lt
theorem PPlatest : PP_latest Inv := by
  intro s t h a1
  have e : a1 ≤ 6 ↔ ¬ 6 < a1 := Int32.not_lt.symm
  unfold fn_CT_latest fn_Mo_latest bk_Mo_latest_17
  rw [p_within, ct_ob_s, p_ck]
  by_cases c1 : a1 < 1
  · have n : ¬ (¬ a1 < 1 ∧ ¬ 6 < a1) := fun q => q.1 c1
    rw [if_neg n, ct_xb_l, if_pos c1]
    exact ⟨_, _, rfl, rfl, fun k s1 q => by cases q; exact rfl, rfl, h.thr⟩
  · by_cases c2 : 6 < a1
    · have n : ¬ (¬ a1 < 1 ∧ ¬ 6 < a1) := fun q => q.2 c2
      have n2 : ¬ a1 ≤ 6 := fun q => e.mp q c2
      rw [if_neg n, ct_xb_l, if_neg c1, if_neg n2]
      exact ⟨_, _, rfl, rfl, fun k s1 q => by cases q; exact rfl, rfl, h.thr⟩
    · rw [if_pos ⟨c1, c2⟩, ct_xb_r, if_neg c1, if_pos (e.mpr c2)]
      refine ⟨_, _, rfl, rfl, fun k s1 q => (by cases q), rfl, ?_⟩
      obtain ⟨⟨h1, h2, h3, h4, h5, h6, h7⟩, ⟨r1, r2, r3, r4, r5, r6, r7⟩, hE, hP, hF, hO, hC⟩ := h
      rw [pi_lt32] at c1 c2
      exact ⟨⟨h1, h2, h3, h4, h5, h6, rfl⟩, ⟨r1, r2, r3, r4, r5, r6, Int.not_lt.mp c1, Int.not_lt.mp c2⟩, hE, hP, hF, hO, hC⟩
theorem PPhide : PP_hide Inv := by
  intro s t h a1
  obtain ⟨⟨h1, h2, h3, h4, h5, h6, h7⟩, ⟨r1, r2, r3, r4, r5, r6, r7⟩, hE, hP, hF, hO, hC⟩ := id h
  unfold fn_CT_hide fn_Mo_hide bk_Mo_hide_18
  rw [p_within, ct_ob_s, p_ck]
  have e1 : (1 : Int32).toInt = 1 := rfl
  have e0 : (0 : Int32).toInt = 0 := rfl
  have em : (cs_I s 4 - 1).toInt = (cs_I s 4).toInt - 1 := by rw [Int32.toInt_sub, e1, pa_bm32 (by omega) (by omega)]
  have e : cs_I s 4 - 1 < a1 ↔ ¬ a1 < ms_I t 5 := by
    rw [pi_lt32, pi_lt32, em, ← h5]
    omega
  by_cases c1 : a1 < 0
  · have n : ¬ (¬ a1 < 0 ∧ ¬ cs_I s 4 - 1 < a1) := fun q => q.1 c1
    rw [if_neg n, ct_xb_l, if_pos c1]
    exact ⟨_, _, _, rfl, rfl, fun k s1 q => by cases q; exact rfl, rfl, h.thr, fun v s1 q => by cases q⟩
  · by_cases c2 : cs_I s 4 - 1 < a1
    · have n : ¬ (¬ a1 < 0 ∧ ¬ cs_I s 4 - 1 < a1) := fun q => q.2 c2
      rw [if_neg n, ct_xb_l, if_neg c1, if_neg (e.mp c2)]
      exact ⟨_, _, _, rfl, rfl, fun k s1 q => by cases q; exact rfl, rfl, h.thr, fun v s1 q => by cases q⟩
    · have c3 : a1 < ms_I t 5 := Decidable.byContradiction fun q => c2 (e.mpr q)
      rw [if_pos ⟨c1, c2⟩, ct_xb_r, if_neg c1, if_pos c3]
      refine ⟨_, _, _, rfl, rfl, fun k s1 q => (by cases q), rfl, ?_, fun v s1 q => ?_⟩
      · rw [pi_lt32] at c1 c2
        exact ⟨⟨h1, h2, h3, h4, h5, rfl, h7⟩, ⟨r1, r2, r3, r4, r5, ⟨by show 0 ≤ a1.toInt; omega, by show a1.toInt < (cs_I s 4).toInt; omega⟩, r7⟩, hE, hP, hF, hO, hC⟩
      · cases q
        show cs_I s 4 - a1 = ms_I t 5 - a1
        rw [h5]
