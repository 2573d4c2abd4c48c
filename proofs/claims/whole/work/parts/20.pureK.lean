/-! how many lines are in a set of 16 -/
def bcN (m : Nat) : Nat :=
  let a := m - Nat.land (m / 2) 1431655765
  let b := Nat.land a 858993459 + Nat.land (a / 4) 858993459
  let c := Nat.land (b + b / 16) 252645135
  let d := c + c / 256
  Nat.land (d + d / 65536) 63
def onN (m : Nat) : Nat := m / 1 % 2 + m / 2 % 2 + m / 4 % 2 + m / 8 % 2 + m / 16 % 2 + m / 32 % 2 + m / 64 % 2 + m / 128 % 2 + m / 256 % 2 + m / 512 % 2 + m / 1024 % 2 + m / 2048 % 2 + m / 4096 % 2 + m / 8192 % 2 + m / 16384 % 2 + m / 32768 % 2
def allB (f : Nat → Bool) (n : Nat) : Bool := Nat.rec true (fun k ih => f k && ih) n
theorem allB_sp {f : Nat → Bool} : ∀ {n : Nat}, allB f n = true → ∀ k, k < n → f k = true
  | 0, _, k, hk => absurd hk (Nat.not_lt_zero k)
  | n + 1, h, k, hk => by
    have h' : (f n && allB f n) = true := h
    rw [Bool.and_eq_true] at h'
    rcases Nat.lt_succ_iff_lt_or_eq.mp hk with q | q
    · exact allB_sp h'.2 k q
    · rw [q]; exact h'.1
theorem pop_all : allB (fun h => allB (fun l => Nat.beq (bcN (256 * h + l)) (onN (256 * h + l))) 256) 256 = true := by decide +kernel
theorem pop_eq {m : Nat} (h : m < 65536) : bcN m = onN m := by
  have h1 := allB_sp (allB_sp pop_all (m / 256) (by omega)) (m % 256) (by omega)
  rw [show 256 * (m / 256) + m % 256 = m by omega] at h1
  exact Nat.eq_of_beq_eq_true h1
