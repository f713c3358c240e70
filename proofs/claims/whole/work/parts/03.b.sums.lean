/-! sums of Int32 -/
def pu_s : Nat → (Nat → Int32) → Int32
  | 0, _ => 0
  | n + 1, f => pu_s n f + f n
theorem pu_ext {n : Nat} {f g : Nat → Int32} (h : ∀ k, k < n → f k = g k) : pu_s n f = pu_s n g := by
  induction n with
  | zero => rfl
  | succ n ih =>
    show pu_s n f + f n = pu_s n g + g n
    rw [ih (fun k hk => h k (by omega)), h n (by omega)]
theorem pu_ac (a b c d : Int32) : a + b + (c + d) = a + c + (b + d) := by
  rw [Int32.add_assoc, Int32.add_assoc, ← Int32.add_assoc b, Int32.add_comm b c, Int32.add_assoc c]
theorem pu_add (n : Nat) (f g : Nat → Int32) : pu_s n (fun k => f k + g k) = pu_s n f + pu_s n g := by
  induction n with
  | zero => rfl
  | succ n ih =>
    show pu_s n (fun k => f k + g k) + (f n + g n) = (pu_s n f + f n) + (pu_s n g + g n)
    rw [ih, pu_ac]
theorem pu_0 (n : Nat) : pu_s n (fun _ => 0) = 0 := by
  induction n with
  | zero => rfl
  | succ n ih =>
    show pu_s n (fun _ => 0) + 0 = 0
    rw [ih]
    rfl
theorem pu_z {n : Nat} {f : Nat → Int32} (h : ∀ k, k < n → f k = 0) : pu_s n f = 0 := (pu_ext h).trans (pu_0 n)
theorem pu_one {n m : Nat} {f : Nat → Int32} (hm : m < n) (h : ∀ k, k < n → k ≠ m → f k = 0) : pu_s n f = f m := by
  induction n with
  | zero => omega
  | succ n ih =>
    show pu_s n f + f n = f m
    by_cases e : m = n
    · subst e
      rw [pu_z (fun k hk => h k (by omega) (by omega)), Int32.zero_add]
    · rw [ih (by omega) (fun k hk => h k (by omega)), h n (by omega) (fun q => e q.symm), Int32.add_zero]
theorem pu_swap (n m : Nat) (f : Nat → Nat → Int32) : pu_s n (fun i => pu_s m (fun j => f i j)) = pu_s m (fun j => pu_s n (fun i => f i j)) := by
  induction n with
  | zero => exact (pu_0 m).symm
  | succ n ih =>
    show pu_s n (fun i => pu_s m (fun j => f i j)) + pu_s m (fun j => f n j) = pu_s m (fun j => pu_s n (fun i => f i j) + f n j)
    rw [pu_add, ih]
