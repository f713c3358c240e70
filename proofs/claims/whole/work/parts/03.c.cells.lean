/-! estimates: the one that counts before B is the greatest (month, number); an estimate's own share is taken off from the month on in which another replaces it -/
def pe_lat (mo : Nat → Nat) (f e : Nat) : Prop := mo e < mo f ∨ (mo f = mo e ∧ e < f)
def pe_best (E : Nat → Bool) (og mo : Nat → Nat) (o B : Nat) : Nat → Option Nat
  | 0 => none
  | k + 1 => if E k = true ∧ og k = o ∧ mo k < B then (match pe_best E og mo o B k with
    | none => some k
    | some f => if mo f ≤ mo k then some k else some f) else pe_best E og mo o B k
def pe_rep (E : Nat → Bool) (og mo : Nat → Nat) (e : Nat) : Nat → Nat
  | 0 => 72
  | k + 1 => if (E k = true ∧ og k = og e ∧ (mo e < mo k ∨ (mo k = mo e ∧ e < k))) ∧ mo k < pe_rep E og mo e k then mo k else pe_rep E og mo e k
theorem pe_rep_lt (E : Nat → Bool) (og mo : Nat → Nat) (e B : Nat) (hB : B ≤ 72) : ∀ k, pe_rep E og mo e k < B ↔ ∃ f, f < k ∧ E f = true ∧ og f = og e ∧ pe_lat mo f e ∧ mo f < B := by
  intro k
  induction k with
  | zero =>
    constructor
    · intro h
      have h : 72 < B := h
      omega
    · rintro ⟨f, hf, -⟩
      omega
  | succ k ih =>
    unfold pe_rep
    by_cases c : (E k = true ∧ og k = og e ∧ (mo e < mo k ∨ (mo k = mo e ∧ e < k))) ∧ mo k < pe_rep E og mo e k
    · rw [if_pos c]
      constructor
      · intro h
        exact ⟨k, by omega, c.1.1, c.1.2.1, c.1.2.2, h⟩
      · rintro ⟨f, hf, h1, h2, h3, h4⟩
        by_cases hk : f = k
        · subst hk
          exact h4
        · have := ih.mpr ⟨f, by omega, h1, h2, h3, h4⟩
          omega
    · rw [if_neg c, ih]
      constructor
      · rintro ⟨f, hf, h⟩
        exact ⟨f, by omega, h⟩
      · rintro ⟨f, hf, h1, h2, h3, h4⟩
        by_cases hk : f = k
        · subst hk
          have h5 : pe_rep E og mo e f ≤ mo f := Nat.not_lt.mp fun q => c ⟨⟨h1, h2, h3⟩, q⟩
          exact ih.mp (by omega)
        · exact ⟨f, by omega, h1, h2, h3, h4⟩
theorem pe_best_none (E : Nat → Bool) (og mo : Nat → Nat) (o B : Nat) : ∀ k, pe_best E og mo o B k = none → ∀ e, e < k → ¬ (E e = true ∧ og e = o ∧ mo e < B) := by
  intro k
  induction k with
  | zero => intro _ e he; omega
  | succ k ih =>
    intro h e he
    unfold pe_best at h
    by_cases c : E k = true ∧ og k = o ∧ mo k < B
    · rw [if_pos c] at h
      split at h
      · cases h
      · split at h <;> cases h
    · rw [if_neg c] at h
      by_cases hk : e = k
      · subst hk; exact c
      · exact ih h e (by omega)
theorem pe_best_some (E : Nat → Bool) (og mo : Nat → Nat) (o B : Nat) : ∀ k f, pe_best E og mo o B k = some f → f < k ∧ (E f = true ∧ og f = o ∧ mo f < B) ∧ ∀ e, e < k → E e = true ∧ og e = o ∧ mo e < B → e = f ∨ pe_lat mo f e := by
  intro k
  induction k with
  | zero => intro f h; cases h
  | succ k ih =>
    intro f h
    unfold pe_best at h
    by_cases c : E k = true ∧ og k = o ∧ mo k < B
    · rw [if_pos c] at h
      split at h
      · rename_i h0
        cases h
        refine ⟨by omega, c, fun e he q => ?_⟩
        by_cases hk : e = k
        · exact Or.inl hk
        · exact absurd q (pe_best_none E og mo o B k h0 e (by omega))
      · rename_i f0 h0
        obtain ⟨a1, a2, a3⟩ := ih f0 h0
        split at h
        · rename_i hle
          cases h
          refine ⟨by omega, c, fun e he q => ?_⟩
          by_cases hk : e = k
          · exact Or.inl hk
          · right
            rcases a3 e (by omega) q with rfl | h1
            · unfold pe_lat; omega
            · unfold pe_lat at h1 ⊢; omega
        · rename_i hle
          cases h
          refine ⟨by omega, a2, fun e he q => ?_⟩
          by_cases hk : e = k
          · subst hk
            right
            unfold pe_lat
            omega
          · exact a3 e (by omega) q
    · rw [if_neg c] at h
      obtain ⟨a1, a2, a3⟩ := ih f h
      refine ⟨by omega, a2, fun e he q => ?_⟩
      by_cases hk : e = k
      · subst hk; exact absurd q c
      · exact a3 e (by omega) q
theorem pe_sum (E : Nat → Bool) (og mo : Nat → Nat) (am : Nat → Int32) (o B n : Nat) (hB : B ≤ 72) :
    pu_s n (fun e => if E e = true ∧ og e = o then (if mo e < B then am e else 0) + (if pe_rep E og mo e n < B then -(am e) else 0) else 0) = match pe_best E og mo o B n with
      | none => 0
      | some f => am f := by
  have zero : ∀ e, e < n → ¬ mo e < B → E e = true ∧ og e = o → (if mo e < B then am e else 0) + (if pe_rep E og mo e n < B then -(am e) else 0) = 0 := by
    intro e he h1 h2
    have h3 : ¬ pe_rep E og mo e n < B := by
      rw [pe_rep_lt E og mo e B hB n]
      rintro ⟨f, hf, -, -, h5, h6⟩
      unfold pe_lat at h5
      omega
    rw [if_neg h1, if_neg h3]
    rfl
  cases hb : pe_best E og mo o B n with
  | none =>
    have h0 := pe_best_none E og mo o B n hb
    refine pu_z (fun e he => ?_)
    by_cases c : E e = true ∧ og e = o
    · rw [if_pos c]
      exact zero e he (fun q => h0 e he ⟨c.1, c.2, q⟩) c
    · rw [if_neg c]
  | some f =>
    obtain ⟨a1, a2, a3⟩ := pe_best_some E og mo o B n f hb
    have hf : (if E f = true ∧ og f = o then (if mo f < B then am f else 0) + (if pe_rep E og mo f n < B then -(am f) else 0) else 0) = am f := by
      have h3 : ¬ pe_rep E og mo f n < B := by
        rw [pe_rep_lt E og mo f B hB n]
        rintro ⟨e, he, h4, h5, h6, h7⟩
        rcases a3 e he ⟨h4, h5.trans a2.2.1, h7⟩ with rfl | h8
        · unfold pe_lat at h6; omega
        · unfold pe_lat at h6 h8; omega
      rw [if_pos ⟨a2.1, a2.2.1⟩, if_pos a2.2.2, if_neg h3, Int32.add_zero]
    show _ = am f
    rw [← hf]
    refine pu_one (f := fun e => if E e = true ∧ og e = o then (if mo e < B then am e else 0) + (if pe_rep E og mo e n < B then -(am e) else 0) else 0) a1 (fun e he hne => ?_)
    by_cases c : E e = true ∧ og e = o
    · rw [if_pos c]
      by_cases h1 : mo e < B
      · have h2 : pe_rep E og mo e n < B := by
          rw [pe_rep_lt E og mo e B hB n]
          rcases a3 e he ⟨c.1, c.2, h1⟩ with h8 | h8
          · exact absurd h8 hne
          · exact ⟨f, a1, a2.1, a2.2.1.trans c.2.symm, h8, a2.2.2⟩
        rw [if_pos h1, if_pos h2, ← Int32.sub_eq_add_neg, Int32.sub_self]
      · exact zero e he h1 c
    · rw [if_neg c]
/-- the origins of a row -/
theorem pe_row {og i st : Nat} (hs : 0 < st) (x : Int32) : pu_s st (fun k => if og = i * st + k then x else 0) = if og / st = i then x else 0 := by
  by_cases h : og / st = i
  · rw [if_pos h]
    have h1 := Nat.div_add_mod og st
    have h2 := Nat.mod_lt og hs
    have h3 : og = i * st + og % st := by rw [← h, Nat.mul_comm]; omega
    have e : (if og = i * st + og % st then x else 0) = x := if_pos h3
    exact (pu_one (f := fun k => if og = i * st + k then x else 0) h2 (fun k hk hne => if_neg (fun q => hne (by omega)))).trans e
  · rw [if_neg h]
    refine pu_z (fun k hk => if_neg (fun q => h ?_))
    rw [q, Nat.mul_comm, Nat.mul_add_div hs, Nat.div_eq_of_lt hk, Nat.add_zero]
/-- all estimates of a row -/
theorem pe_all (E : Nat → Bool) (og mo : Nat → Nat) (am : Nat → Int32) (i st B n : Nat) (hs : 0 < st) (hB : B ≤ 72) :
    pu_s n (fun e => if E e = true ∧ og e / st = i then (if mo e < B then am e else 0) + (if pe_rep E og mo e n < B then -(am e) else 0) else 0) = pu_s st (fun k => match pe_best E og mo (i * st + k) B n with
      | none => 0
      | some f => am f) := by
  rw [← pu_ext (n := st) (fun k _ => pe_sum E og mo am (i * st + k) B n hB), ← pu_swap]
  refine pu_ext (fun e _ => ?_)
  show (if E e = true ∧ og e / st = i then (if mo e < B then am e else 0) + (if pe_rep E og mo e n < B then -(am e) else 0) else 0) = pu_s st (fun k => if E e = true ∧ og e = i * st + k then (if mo e < B then am e else 0) + (if pe_rep E og mo e n < B then -(am e) else 0) else 0)
  generalize (if mo e < B then am e else 0) + (if pe_rep E og mo e n < B then -(am e) else 0) = x
  by_cases c : E e = true
  · have h := pe_row (og := og e) (i := i) hs x
    have h2 : pu_s st (fun k => if E e = true ∧ og e = i * st + k then x else 0) = pu_s st (fun k => if og e = i * st + k then x else 0) := pu_ext (fun k _ => by
      by_cases q : og e = i * st + k
      · rw [if_pos q, if_pos ⟨c, q⟩]
      · rw [if_neg q, if_neg (fun z => q z.2)])
    rw [h2, h]
    by_cases d : og e / st = i
    · rw [if_pos ⟨c, d⟩, if_pos d]
    · rw [if_neg (fun z => d z.2), if_neg d]
  · rw [if_neg (fun z => c z.1)]
    exact (pu_z (fun k _ => if_neg (fun z => c z.1))).symm
