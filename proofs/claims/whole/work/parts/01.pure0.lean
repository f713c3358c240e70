/-! my rows: pure combinators, the picture of the state, the world, starts, ends, calls. Stands behind the names (R_, T_, kl, Wds, NW, wd_). UNTRIED DRAFT. -/
def ct_nm {α β : Type} (a : α) (f : α → β) : β := f a
def ct_gd {α : Type} (b : Bool) (e : Option α) : Option α := if b = true then e else none
def ct_ob {α β : Type} (o : Option α) (f : α → Option β) : Option β := o.bind f
def ct_ob2 {α β γ : Type} (o : Option (α × β)) (f : α → β → Option γ) : Option γ := o.bind fun q => f q.1 q.2
def ct_xc {X α β : Type} (f : α → Option (X ⊕ β)) (r : X ⊕ α) : Option (X ⊕ β) := match r with
  | .inl x => some (.inl x)
  | .inr a => f a
def ct_xb {X α β : Type} (o : Option (X ⊕ α)) (f : α → Option (X ⊕ β)) : Option (X ⊕ β) := o.bind (ct_xc f)
def ct_xb2 {X α γ β : Type} (o : Option (X ⊕ (α × γ))) (f : α → γ → Option (X ⊕ β)) : Option (X ⊕ β) := o.bind (ct_xc fun q => f q.1 q.2)
def ct_inR (i : Int32) (n : Nat) : Bool := decide (0 ≤ i.toInt ∧ i.toInt < n)
def ct_gzI (y : Int32) : Bool := decide (¬ y = 0)
def ct_gzL (y : Int64) : Bool := decide (¬ y = 0)
def ct_isB (x : Int32) : Bool := decide (x = 0 ∨ x = 1)
def ct_mxI (x y : Int32) : Int32 := if x < y then y else x
def ct_mxL (x y : Int64) : Int64 := if y < x then x else y
def ct_abL (x : Int64) : Int64 := if 0 < x then x else -x
theorem ct_nm_ex {α β : Type} {a : α} {f : α → β} {r : β} (h : ct_nm a f = r) : ∃ x, x = a ∧ f x = r := ⟨a, rfl, h⟩
theorem ct_nm_at {α β : Type} {a x : α} {f : α → β} {r : β} (h : ct_nm a f = r) (e : x = a) : f x = r := by rw [e]; exact h
theorem ct_gd_some {α : Type} {b : Bool} {e : Option α} {r : α} (h : ct_gd b e = some r) : b = true ∧ e = some r := by
  unfold ct_gd at h
  split at h
  · exact ⟨by assumption, h⟩
  · cases h
theorem ct_ob_some {α β : Type} {o : Option α} {f : α → Option β} {r : β} (h : ct_ob o f = some r) : ∃ a, o = some a ∧ f a = some r := Option.bind_eq_some_iff.mp h
theorem ct_ob2_some {α β γ : Type} {o : Option (α × β)} {f : α → β → Option γ} {r : γ} (h : ct_ob2 o f = some r) : ∃ a b, o = some (a, b) ∧ f a b = some r := by
  obtain ⟨⟨a, b⟩, h1, h2⟩ := Option.bind_eq_some_iff.mp h
  exact ⟨a, b, h1, h2⟩
theorem ct_xb_some {X α β : Type} {o : Option (X ⊕ α)} {f : α → Option (X ⊕ β)} {r : X ⊕ β} (h : ct_xb o f = some r) : ∃ q, o = some q ∧ ct_xc f q = some r := Option.bind_eq_some_iff.mp h
theorem ct_xb2_some {X α γ β : Type} {o : Option (X ⊕ (α × γ))} {f : α → γ → Option (X ⊕ β)} {r : X ⊕ β} (h : ct_xb2 o f = some r) : ∃ q, o = some q ∧ ct_xc (fun z => f z.1 z.2) q = some r := Option.bind_eq_some_iff.mp h
theorem ct_xc_inr {X α β : Type} {f : α → Option (X ⊕ β)} {a : α} {r : Option (X ⊕ β)} (h : ct_xc f (.inr a) = r) : f a = r := h
theorem ct_xc_inr2 {X α γ β : Type} {f : α → γ → Option (X ⊕ β)} {a : α} {c : γ} {r : Option (X ⊕ β)} (h : ct_xc (fun z => f z.1 z.2) (.inr (a, c)) = r) : f a c = r := h
theorem ct_inR_vp {i : Int32} {n : Nat} (h : ct_inR i n = true) : vp_in i n := vp_in_iff.mpr (of_decide_eq_true h)
theorem ct_inR_lt {i : Int32} {n : Nat} (h : ct_inR i n = true) : i.toNatClampNeg < n := Nat.not_le.mp fun q => ct_inR_vp h (Or.inr q)
theorem ct_gzI_ne {y : Int32} (h : ct_gzI y = true) : ¬ y = 0 := of_decide_eq_true h
theorem ct_gzL_ne {y : Int64} (h : ct_gzL y = true) : ¬ y = 0 := of_decide_eq_true h
theorem ct_isB_nar {x : Int32} (h : ct_isB x = true) : narrow .boolean (.int x) = .int x := by
  rcases of_decide_eq_true h with rfl | rfl <;> rfl
theorem ct_isB_fit {x : Int32} (h : ct_isB x = true) : fits .boolean (.int x) = true := by
  rcases of_decide_eq_true h with rfl | rfl <;> rfl

theorem ct_nm_eq {α β : Type} (a : α) (f : α → β) : ct_nm a f = f a := rfl
theorem ct_gd_t {α : Type} (e : Option α) : ct_gd true e = e := rfl
theorem ct_ob_s {α β : Type} (a : α) (f : α → Option β) : ct_ob (some a) f = f a := rfl
theorem ct_ob2_s {α β γ : Type} (a : α) (b : β) (f : α → β → Option γ) : ct_ob2 (some (a, b)) f = f a b := rfl
theorem ct_xb_r {X α β : Type} (a : α) (f : α → Option (X ⊕ β)) : ct_xb (some (.inr a)) f = f a := rfl
theorem ct_xb_l {X α β : Type} (x : X) (f : α → Option (X ⊕ β)) : ct_xb (some (.inl x)) f = some (.inl x) := rfl
theorem ct_xb2_r {X α γ β : Type} (a : α) (c : γ) (f : α → γ → Option (X ⊕ β)) : ct_xb2 (some (.inr (a, c))) f = f a c := rfl
theorem ct_xb2_l {X α γ β : Type} (x : X) (f : α → γ → Option (X ⊕ β)) : ct_xb2 (some (.inl x)) f = some (.inl x) := rfl

/-! the class's state: numbers, the ledger's arrays and 'out', the triangle's rows, the premiums' rows, the fractions -/
abbrev CS : Type := (Nat → Int32) × (Nat → Nat → Int32) × (Nat → Nat → Int32) × (Nat → Nat → Int32) × (Nat → Int64 × Int64 × Int32)
def cs_I (s : CS) (k : Nat) : Int32 := s.1 k
def cs_A (s : CS) (k : Nat) : Nat → Int32 := s.2.1 k
def cs_R (s : CS) (k : Nat) : Nat → Int32 := s.2.2.1 k
def cs_P (s : CS) (k : Nat) : Nat → Int32 := s.2.2.2.1 k
def cs_F (s : CS) (k : Nat) : Int64 × Int64 × Int32 := s.2.2.2.2 k
def cs_I' (s : CS) (k : Nat) (v : Int32) : CS := (va_up s.1 k v, s.2)
def cs_A' (s : CS) (k i : Nat) (v : Int32) : CS := (s.1, va_up s.2.1 k (upd (s.2.1 k) i v), s.2.2)
def cs_R' (s : CS) (k i : Nat) (v : Int32) : CS := (s.1, s.2.1, va_up s.2.2.1 k (upd (s.2.2.1 k) i v), s.2.2.2)
def cs_P' (s : CS) (k i : Nat) (v : Int32) : CS := (s.1, s.2.1, s.2.2.1, va_up s.2.2.2.1 k (upd (s.2.2.2.1 k) i v), s.2.2.2.2)
def cs_F' (s : CS) (k : Nat) (t : Int64 × Int64 × Int32) : CS := (s.1, s.2.1, s.2.2.1, s.2.2.2.1, va_up s.2.2.2.2 k t)
def cs_F0' (s : CS) (k : Nat) (v : Int64) : CS := cs_F' s k (v, (cs_F s k).2)
def cs_F1' (s : CS) (k : Nat) (v : Int64) : CS := cs_F' s k ((cs_F s k).1, v, (cs_F s k).2.2)
def cs_F2' (s : CS) (k : Nat) (v : Int32) : CS := cs_F' s k ((cs_F s k).1, (cs_F s k).2.1, v)
/-! the reference's state: numbers, longs, arrays, long arrays -/
abbrev MS : Type := (Nat → Int32) × (Nat → Int64) × (Nat → Nat → Int32) × (Nat → Nat → Int64)
def ms_I (s : MS) (k : Nat) : Int32 := s.1 k
def ms_L (s : MS) (k : Nat) : Int64 := s.2.1 k
def ms_A (s : MS) (k : Nat) : Nat → Int32 := s.2.2.1 k
def ms_B (s : MS) (k : Nat) : Nat → Int64 := s.2.2.2 k
def ms_I' (s : MS) (k : Nat) (v : Int32) : MS := (va_up s.1 k v, s.2)
def ms_L' (s : MS) (k : Nat) (v : Int64) : MS := (s.1, va_up s.2.1 k v, s.2.2)
def ms_A' (s : MS) (k i : Nat) (v : Int32) : MS := (s.1, s.2.1, va_up s.2.2.1 k (upd (s.2.2.1 k) i v), s.2.2.2)
def ms_B' (s : MS) (k i : Nat) (v : Int64) : MS := (s.1, s.2.1, s.2.2.1, va_up s.2.2.2 k (vp_updL (s.2.2.2 k) i v))

