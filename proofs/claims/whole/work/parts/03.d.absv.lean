/-! abstract values of fractions: (state, above, below); state 0 fine, 1 too long, 2 undefined (then 0, 0) -/
abbrev AV : Type := Nat × Int × Int
def av_op (f : Int → Int → Int → Int → Option (Int × Int)) (x y : AV) : AV :=
  if x.1 = 0 ∧ y.1 = 0 then (match f x.2.1 x.2.2 y.2.1 y.2.2 with
    | some q => (0, q.1, q.2)
    | none => (1, 0, 0)) else (max x.1 y.1, 0, 0)
def av_times (x y : AV) : AV := av_op sp_times x y
def av_plus (x y : AV) : AV := av_op sp_plus x y
def av_neg (x : AV) : AV := if x.1 = 0 then (0, -x.2.1, x.2.2) else x
def av_inv (x : AV) : AV := if x.1 = 0 then (if x.2.1 = 0 then (2, 0, 0) else if x.2.1 < 0 then (0, -x.2.2, -x.2.1) else (0, x.2.2, x.2.1)) else x
def av_quot (a b : Int) : AV := if b = 0 then (2, 0, 0) else if b < 0 then (0, -(a / (Int.gcd a b : Int)), -b / (Int.gcd a b : Int)) else (0, a / (Int.gcd a b : Int), b / (Int.gcd a b : Int))
def av_int (a : Int) : AV := (0, a, 1)
theorem av_op_comm {f : Int → Int → Int → Int → Option (Int × Int)} (hf : ∀ a b c d, f a b c d = f c d a b) (x y : AV) : av_op f x y = av_op f y x := by
  unfold av_op
  by_cases h : x.1 = 0 ∧ y.1 = 0
  · rw [if_pos h, if_pos ⟨h.2, h.1⟩, hf]
  · rw [if_neg h, if_neg (fun q => h ⟨q.2, q.1⟩), Nat.max_comm]
theorem av_times_comm (x y : AV) : av_times x y = av_times y x := av_op_comm sp_times_comm x y
theorem av_plus_comm (x y : AV) : av_plus x y = av_plus y x := av_op_comm sp_plus_comm x y
def av_ok (x : AV) : Prop := (x.1 = 0 ∧ sp_ok x.2.1 x.2.2) ∨ ((x.1 = 1 ∨ x.1 = 2) ∧ x.2 = (0, 0))
/-- the class's fraction as an abstract value; what is fine about it -/
def fv (t : Int64 × Int64 × Int32) : AV := if t.2.2 = 0 then (0, t.1.toInt, t.2.1.toInt) else if t.2.2 = 1 then (1, 0, 0) else (2, 0, 0)
def fr_ok (t : Int64 × Int64 × Int32) : Prop := (t.2.2 = 0 ∧ sp_ok t.1.toInt t.2.1.toInt) ∨ t.2.2 = 1 ∨ t.2.2 = 2
