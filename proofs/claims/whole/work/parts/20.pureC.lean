/-! a loop with an invariant; sums -/
theorem loopI {σ β : Type} (F : Nat → σ → Nat → Option β) (n : Nat) (K : σ → Option β) (Inv : Nat → σ → Prop) (hend : ∀ N v, Inv n v → F (N + 1) v n = K v) (hstep : ∀ N v i, i < n → Inv i v → ∃ w, F (N + 1) v i = F N w (i + 1) ∧ Inv (i + 1) w) : ∀ (d i N : Nat) (v : σ), i + d = n → d < N → Inv i v → ∃ w, F N v i = K w ∧ Inv n w := by
  intro d
  induction d with
  | zero =>
    intro i N v h1 h2 h3
    obtain ⟨N, rfl⟩ : ∃ z, N = z + 1 := ⟨N - 1, by omega⟩
    obtain rfl : i = n := by omega
    exact ⟨v, hend N v h3, h3⟩
  | succ d ih =>
    intro i N v h1 h2 h3
    obtain ⟨N, rfl⟩ : ∃ z, N = z + 1 := ⟨N - 1, by omega⟩
    obtain ⟨w, e, hw⟩ := hstep N v i (by omega) h3
    rw [e]
    exact ih (i + 1) N w (by omega) (by omega) hw
def su : Nat → (Nat → Int32) → Int32
  | 0, _ => 0
  | n + 1, g => su n g + g n
theorem su_cg {n : Nat} {g h : Nat → Int32} (e : ∀ i, i < n → g i = h i) : su n g = su n h := by
  induction n with
  | zero => rfl
  | succ n ih => rw [su, su, ih (fun i hi => e i (by omega)), e n (by omega)]
theorem su_split (m n : Nat) (g : Nat → Int32) : su (m + n) g = su m g + su n (fun j => g (m + j)) := by
  induction n with
  | zero => rw [su, Nat.add_zero, Int32.add_zero]
  | succ n ih => rw [← Nat.add_assoc, su, su, ih, Int32.add_assoc]
theorem su_mul (m n : Nat) (g : Nat → Int32) : su (m * n) g = su m (fun i => su n (fun j => g (n * i + j))) := by
  induction m with
  | zero => rw [Nat.zero_mul]; rfl
  | succ m ih => rw [Nat.succ_mul, su_split, ih, su, Nat.mul_comm m n]
theorem su_bd {n B : Nat} {g : Nat → Int32} (h : ∀ i, i < n → ∃ z, z ≤ B ∧ g i = nI z) : ∃ z, z ≤ n * B ∧ su n g = nI z := by
  induction n with
  | zero => exact ⟨0, by omega, rfl⟩
  | succ n ih =>
    obtain ⟨z, hz, e⟩ := ih (fun i hi => h i (by omega))
    obtain ⟨y, hy, e'⟩ := h n (by omega)
    refine ⟨z + y, ?_, by rw [su, e, e', nI_add]⟩
    rw [Nat.succ_mul]; omega
/-! where things are: how far they come -/
theorem dv_lip {a x d : Int} (h1 : -40 ≤ a) (h2 : a ≤ 40) (hd : 0 ≤ d) : -(4 * d) ≤ a * (x + d) / 10 - a * x / 10 ∧ a * (x + d) / 10 - a * x / 10 ≤ 4 * d := by
  have e1 : a * (x + d) = a * x + a * d := Int.mul_add a x d
  have e2 : a * d ≤ 40 * d := Int.mul_le_mul_of_nonneg_right h2 hd
  have e3 : -40 * d ≤ a * d := Int.mul_le_mul_of_nonneg_right h1 hd
  rw [e1]
  generalize a * x = p at *
  generalize a * d = q at *
  omega
theorem lp_lip {sp si le un ul : Nat → Int32} {n : Nat} (hT : ThOK n sp si un) (t d : Int) (hd : 0 ≤ d) : ∀ (k i : Nat), i < n → -(4 * k * d) ≤ lpI sp si le un ul k i (t + d) - lpI sp si le un ul k i t ∧ lpI sp si le un ul k i (t + d) - lpI sp si le un ul k i t ≤ 4 * k * d := by
  intro k
  induction k with
  | zero => intro i hi; rw [lpI, lpI]; simp
  | succ k ih =>
    intro i hi
    obtain ⟨⟨a1, a2⟩, -, hu⟩ := hT.2 i hi
    have key := dv_lip (a := (sp i).toInt) (x := t - (si i).toInt) a1 a2 hd
    rw [show t - (si i).toInt + d = t + d - (si i).toInt by omega] at key
    rw [lpI, lpI]
    have e4 : 4 * ((k + 1 : Nat) : Int) * d = 4 * (k : Int) * d + 4 * d := by
      rw [Int.natCast_succ, Int.mul_add, Int.add_mul]; omega
    rw [e4]
    have h8 := hT.1
    rcases hu with hu | ⟨j, hj, hu⟩
    · have hz : un i < 0 := by rw [hu]; decide
      rw [if_pos hz, if_pos hz]
      have : 0 ≤ 4 * (k : Int) * d := Int.mul_nonneg (by omega) hd
      omega
    · have hz : ¬ un i < 0 := by rw [hu]; exact nI_pos (by omega)
      rw [if_neg hz, if_neg hz, hu, nI_clamp (show j < 2 ^ 31 by omega)]
      have := ih j (by omega)
      omega
theorem lp_fuel {sp si le un ul : Nat → Int32} {n : Nat} (hT : ThOK n sp si un) (t : Int) : ∀ (i k k' : Nat), i < n → i < k → i < k' → lpI sp si le un ul k i t = lpI sp si le un ul k' i t := by
  intro i
  induction i using Nat.strongRecOn with
  | ind i ih =>
    intro k k' hi hk hk'
    obtain ⟨k, rfl⟩ : ∃ z, k = z + 1 := ⟨k - 1, by omega⟩
    obtain ⟨k', rfl⟩ : ∃ z, k' = z + 1 := ⟨k' - 1, by omega⟩
    have h8 := hT.1
    obtain ⟨-, -, hu⟩ := hT.2 i hi
    rw [lpI, lpI]
    rcases hu with hu | ⟨j, hj, hu⟩
    · have hz : un i < 0 := by rw [hu]; decide
      rw [if_pos hz, if_pos hz]
    · have hz : ¬ un i < 0 := by rw [hu]; exact nI_pos (by omega)
      rw [if_neg hz, if_neg hz, hu, nI_clamp (show j < 2 ^ 31 by omega), ih j hj k k' (by omega) (by omega) (by omega)]
/-- at the time T all things are within reach -/
def PosB (n : Nat) (T : Int) (sp si le un ul : Nat → Int32) : Prop := ∀ i : Nat, i < n → -(23 + 32 * T) ≤ lpI sp si le un ul 8 i T ∧ lpI sp si le un ul 8 i T ≤ 23 + 32 * T
theorem PosB.later {n : Nat} {T : Int} {sp si le un ul : Nat → Int32} (hT : ThOK n sp si un) (h : PosB n T sp si le un ul) {t : Int} (ht : T ≤ t) : PosB n t sp si le un ul := by
  intro i hi
  have h1 := h i hi
  have h2 := lp_lip (le := le) (ul := ul) hT T (t - T) (by omega) 8 i hi
  rw [show T + (t - T) = t by omega] at h2
  omega
theorem lp_cg {sp si le un ul sp' si' le' un' ul' : Nat → Int32} {n : Nat} (hT : ThOK n sp si un) (t : Int) (e1 : ∀ i, i < n → sp' i = sp i) (e2 : ∀ i, i < n → si' i = si i) (e3 : ∀ i, i < n → le' i = le i) (e4 : ∀ i, i < n → un' i = un i) (e5 : ∀ i, i < n → ul' i = ul i) : ∀ (k i : Nat), i < n → lpI sp' si' le' un' ul' k i t = lpI sp si le un ul k i t := by
  intro k
  induction k with
  | zero => intro i _; rfl
  | succ k ih =>
    intro i hi
    have h8 := hT.1
    obtain ⟨-, -, hu⟩ := hT.2 i hi
    rw [lpI, lpI, e1 i hi, e2 i hi, e3 i hi, e4 i hi, e5 i hi]
    rcases hu with hu | ⟨j, hj, hu⟩
    · have hz : un i < 0 := by rw [hu]; decide
      rw [if_pos hz, if_pos hz]
    · have hz : ¬ un i < 0 := by rw [hu]; exact nI_pos (by omega)
      rw [if_neg hz, if_neg hz, hu, nI_clamp (show j < 2 ^ 31 by omega), ih j (by omega)]
/-! class and reference stand alike: a scene -/
def ScR (n T : Nat) (se : Nat → Int32) (mn : Int32) (ln hi wi br sp si le un ul px : Nat → Int32) (tm ps ft fk : Int32) (S : Nat → Int32) : Prop :=
  (n ≤ 8 ∧ mn = nI n ∧ S 5 = nI n) ∧ (T ≤ 9999 ∧ tm = nI T ∧ S 4 = nI T) ∧ (∃ z : Nat, z ≤ 9 ∧ se 0 = nI z ∧ S 0 = nI z) ∧ (∃ z : Nat, 1 ≤ z ∧ z ≤ 20 ∧ se 1 = nI z ∧ S 1 = nI z) ∧ (∃ z : Nat, z ≤ 40 ∧ se 2 = nI z ∧ S 2 = nI z) ∧ (∃ z : Nat, 1 ≤ z ∧ z ≤ 4 ∧ se 3 = nI z ∧ S 3 = nI z) ∧ (S 8 = fk ∧ FlR ft fk (S 7)) ∧ S 6 = ps ∧ ThOK n sp si un ∧ (∀ i : Nat, i < n → ThR i ln hi wi br sp si le un ul S) ∧ (∀ i : Nat, i < n → (∃ z : Nat, z ≤ 15 ∧ ln i = nI z) ∧ (∃ z : Nat, 1 ≤ z ∧ z ≤ 16 ∧ hi i = nI z) ∧ (∃ z : Nat, 1 ≤ z ∧ z ≤ 24 ∧ wi i = nI z) ∧ (∃ z : Nat, 1 ≤ z ∧ z ≤ 9 ∧ br i = nI z)) ∧ PosB n (T : Int) sp si le un ul ∧ (∀ k : Nat, k < 384 → S (81 + k) = px k ∧ 0 ≤ px k)
/-- the reference's cells may stand elsewhere -/
theorem ScR.cgS {n T : Nat} {se : Nat → Int32} {mn : Int32} {ln hi wi br sp si le un ul px : Nat → Int32} {tm ps ft fk : Int32} {S S' : Nat → Int32} (h : ScR n T se mn ln hi wi br sp si le un ul px tm ps ft fk S) (e : ∀ k, k < 465 → S' k = S k) : ScR n T se mn ln hi wi br sp si le un ul px tm ps ft fk S' := by
  obtain ⟨⟨n8, hn, h5⟩, ⟨T9, ht, h4⟩, h0, h1, h2, h3, hF, h6, hT, hR, hV, hB, hP⟩ := h
  have i0 := e 0 (by decide); have i1 := e 1 (by decide); have i2 := e 2 (by decide); have i3 := e 3 (by decide); have i4 := e 4 (by decide); have i5 := e 5 (by decide); have i6 := e 6 (by decide); have i7 := e 7 (by decide); have i8 := e 8 (by decide)
  refine ⟨⟨n8, hn, by rw [i5, h5]⟩, ⟨T9, ht, by rw [i4, h4]⟩, by rw [i0]; exact h0, by rw [i1]; exact h1, by rw [i2]; exact h2, by rw [i3]; exact h3, by rw [i8, i7]; exact hF, by rw [i6, h6], hT, fun i hi => ?_, hV, hB, fun k hk => by rw [e (81 + k) (by omega)]; exact hP k hk⟩
  have := hR i hi
  unfold ThR at this ⊢
  rw [e _ (by omega), e _ (by omega), e _ (by omega), e _ (by omega), e _ (by omega), e _ (by omega), e _ (by omega), e _ (by omega), e _ (by omega)]
  exact this
/-- what is known of a scene may stand in another's cells -/
theorem ScR.cgC {n T : Nat} {se se' : Nat → Int32} {mn : Int32} {ln hi wi br sp si le un ul px ln' hi' wi' br' sp' si' le' un' ul' px' : Nat → Int32} {tm ps ft fk : Int32} {S : Nat → Int32} (h : ScR n T se mn ln hi wi br sp si le un ul px tm ps ft fk S) (q0 : ∀ j, j < 4 → se' j = se j) (q1 : ∀ j, j < 8 → ln' j = ln j) (q2 : ∀ j, j < 8 → hi' j = hi j) (q3 : ∀ j, j < 8 → wi' j = wi j) (q4 : ∀ j, j < 8 → br' j = br j) (q5 : ∀ j, j < 8 → sp' j = sp j) (q6 : ∀ j, j < 8 → si' j = si j) (q7 : ∀ j, j < 8 → le' j = le j) (q8 : ∀ j, j < 8 → un' j = un j) (q9 : ∀ j, j < 8 → ul' j = ul j) (q10 : ∀ j, j < 384 → px' j = px j) : ScR n T se' mn ln' hi' wi' br' sp' si' le' un' ul' px' tm ps ft fk S := by
  obtain ⟨⟨n8, hn, h5⟩, hTT, h0, h1, h2, h3, hF, h6, hT, hR, hV, hB, hP⟩ := h
  refine ⟨⟨n8, hn, h5⟩, hTT, by rw [q0 0 (by decide)]; exact h0, by rw [q0 1 (by decide)]; exact h1, by rw [q0 2 (by decide)]; exact h2, by rw [q0 3 (by decide)]; exact h3, hF, h6, ⟨n8, fun i hi => ?_⟩, fun i hi => ?_, fun i hi => ?_, fun i hi => ?_, fun k hk => by rw [q10 k hk]; exact hP k hk⟩
  · rw [q5 i (by omega), q6 i (by omega), q8 i (by omega)]; exact hT.2 i hi
  · have := hR i hi
    unfold ThR at this ⊢
    rw [q1 i (by omega), q2 i (by omega), q3 i (by omega), q4 i (by omega), q5 i (by omega), q6 i (by omega), q7 i (by omega), q8 i (by omega), q9 i (by omega)]
    exact this
  · rw [q1 i (by omega), q2 i (by omega), q3 i (by omega), q4 i (by omega)]; exact hV i hi
  · rw [lp_cg hT T (fun i hi => q5 i (by omega)) (fun i hi => q6 i (by omega)) (fun i hi => q7 i (by omega)) (fun i hi => q8 i (by omega)) (fun i hi => q9 i (by omega)) 8 i hi]; exact hB i hi
