def iI (z : Int) : Int32 := Int32.ofInt z
theorem bm_id {z : Int} (h1 : -2147483648 ≤ z) (h2 : z < 2147483648) : z.bmod (2 ^ 32) = z := by
  rw [Int.bmod_eq_of_le (by omega) (by omega)]
theorem iI_T {z : Int} (h1 : -2147483648 ≤ z) (h2 : z < 2147483648) : (iI z).toInt = z := by
  rw [iI, Int32.toInt_ofInt]; exact bm_id h1 h2
theorem iI_as (x : Int32) : iI x.toInt = x := Int32.ofInt_toInt x
theorem iI_rng (x : Int32) : -2147483648 ≤ x.toInt ∧ x.toInt < 2147483648 := by
  have h1 := Int32.le_toInt x
  have h2 := Int32.toInt_lt x
  omega
theorem iI_add (a b : Int) : iI a + iI b = iI (a + b) := by
  apply Int32.toInt_inj.mp
  rw [Int32.toInt_add, iI, iI, iI, Int32.toInt_ofInt, Int32.toInt_ofInt, Int32.toInt_ofInt, ← Int.bmod_add_bmod, Int.add_comm, ← Int.bmod_add_bmod, Int.add_comm]
  simp
theorem iI_neg (a : Int) : -iI a = iI (-a) := by
  apply Int32.toInt_inj.mp
  rw [Int32.toInt_neg, iI, iI, Int32.toInt_ofInt, Int32.toInt_ofInt]
  simp
theorem iI_sub (a b : Int) : iI a - iI b = iI (a - b) := by
  rw [Int32.sub_eq_add_neg, iI_neg, iI_add, Int.sub_eq_add_neg]
theorem iI_mul (a b : Int) : iI a * iI b = iI (a * b) := by
  apply Int32.toInt_inj.mp
  rw [Int32.toInt_mul, iI, iI, iI, Int32.toInt_ofInt, Int32.toInt_ofInt, Int32.toInt_ofInt]
  simp
theorem iI_lt {a b : Int} (h1 : -2147483648 ≤ a) (h2 : a < 2147483648) (h3 : -2147483648 ≤ b) (h4 : b < 2147483648) : iI a < iI b ↔ a < b := by
  rw [Int32.lt_iff_toInt_lt, iI_T h1 h2, iI_T h3 h4]
theorem iI_le {a b : Int} (h1 : -2147483648 ≤ a) (h2 : a < 2147483648) (h3 : -2147483648 ≤ b) (h4 : b < 2147483648) : iI a ≤ iI b ↔ a ≤ b := by
  rw [Int32.le_iff_toInt_le, iI_T h1 h2, iI_T h3 h4]
theorem iI_eq {a b : Int} (h1 : -2147483648 ≤ a) (h2 : a < 2147483648) (h3 : -2147483648 ≤ b) (h4 : b < 2147483648) : iI a = iI b ↔ a = b := by
  rw [← Int32.toInt_inj, iI_T h1 h2, iI_T h3 h4]
theorem iI_nat (n : Nat) : iI (n : Int) = nI n := by
  rw [iI, nI]; exact Int32.ofInt_eq_ofNat
theorem iI_cl {z : Nat} (h : z < 2147483648) : (iI (z : Int)).toNatClampNeg = z := by
  rw [iI_nat]; exact nI_clamp h
theorem iI_vp {z n : Nat} (h1 : z < n) (hn : n < 2147483648) : vp_in (iI (z : Int)) n := by
  rw [iI_nat]; exact vp_in_nI h1 hn
theorem nI_T {n : Nat} (h : n < 2147483648) : (nI n).toInt = (n : Int) := nI_toInt h
theorem bn_some {α β : Type} (a : α) (k : α → Option β) : bn (some a) k = k a := rfl
theorem bd_eq {α β : Type} (a : α) (k : α → Option β) : bd a k = k a := rfl
theorem jn_eq {α β : Type} (k : α) (b : α → Option β) : jn k b = b k := rfl
theorem gz_ok {α : Type} {y : Int32} {k : Option α} (h : ¬ y = 0) : gz y k = k := if_neg h
theorem gb_ok {α : Type} {y : Int32} {k : Option α} (h : y = 0 ∨ y = 1) : gb y k = k := if_pos h
theorem gc_ok {α : Type} {y : Int32} {k : Option α} (h : 0 ≤ y ∧ y ≤ 65535) : gc y k = k := if_pos h
theorem gr_ok2 {α : Type} {i : Int32} {n : Nat} {k : Option α} (h1 : ¬ i < 0) (h2 : i.toNatClampNeg ≤ n) : gr i n k = k := if_neg (fun z => z.elim h1 (Nat.not_lt.mpr h2))
def bI (p : Prop) [Decidable p] : Int32 := if p then 1 else 0
theorem bI_01 (p : Prop) [Decidable p] : bI p = 0 ∨ bI p = 1 := by unfold bI; by_cases h : p <;> simp [h]
theorem bI_0 (p : Prop) [Decidable p] : bI p = 0 ↔ ¬ p := by unfold bI; by_cases h : p <;> simp [h]
theorem wi_eq (a b c : Int32) : f_X7_within a b c = some (bI (b ≤ a ∧ a ≤ c)) := by
  unfold f_X7_within bI
  by_cases h1 : a < b
  · rw [if_pos h1, if_neg (fun h => Int32.not_le.mpr h1 h.1)]
  · rw [if_neg h1]
    by_cases h2 : c < a
    · rw [if_pos h2, if_neg (fun h => Int32.not_le.mpr h2 h.2)]
    · rw [if_neg h2, if_pos ⟨Int32.not_lt.mp h1, Int32.not_lt.mp h2⟩]
theorem div_nn {z : Int} (h1 : 0 ≤ z) (h2 : z < 2147483648) : iI z / 10 = iI (z / 10) := by
  obtain ⟨n, rfl⟩ := Int.eq_ofNat_of_zero_le h1
  rw [iI_nat, show (10 : Int32) = nI 10 from rfl, pk_div (by omega) (by decide) (by decide), ← iI_nat]
  rfl
theorem div_neg {z : Int} (h1 : z < 0) (h2 : -2147483648 < z) : iI z / 10 = iI (-((-z) / 10)) := by
  have e : iI z = -iI (-z) := by rw [iI_neg, Int.neg_neg]
  rw [← iI_neg, ← div_nn (by omega) (by omega), e]
  apply Int32.toInt_inj.mp
  have hT : (iI (-z)).toInt = -z := iI_T (by omega) (by omega)
  have hD : (iI (-z) / 10).toInt = (-z) / 10 := by rw [div_nn (by omega) (by omega)]; exact iI_T (by omega) (by omega)
  rw [Int32.toInt_neg, hD, Int32.toInt_div, Int32.toInt_neg, hT]
  rw [show ((10 : Int32).toInt) = 10 from rfl]
  rw [Int.bmod_eq_of_le (n := -(-z)) (by omega) (by omega), Int.neg_tdiv, Int.tdiv_eq_ediv_of_nonneg (by omega)]
theorem xor10 (x : Int32) : 0 ≤ (x ^^^ 10) ↔ 0 ≤ x := by
  have key : ∀ y : Int32, 0 ≤ y ↔ y.toBitVec.msb = false := fun y => by
    rw [Int32.le_iff_toInt_le, show (0 : Int32).toInt = 0 from rfl, ← Int32.toInt_toBitVec, BitVec.msb_eq_toInt]
    simp
  rw [key, key, Int32.toBitVec_xor, BitVec.msb_xor]
  rw [show (10 : Int32).toBitVec.msb = false from by decide, Bool.xor_false]
theorem fdiv_eq {z : Int} (h1 : -1000000000 ≤ z) (h2 : z ≤ 1000000000) : f_J9_floorDiv_7cf53 (iI z) 10 = some (iI (z / 10)) := by
  unfold f_J9_floorDiv_7cf53
  rw [gz_ok (by decide), bd_eq]
  have hx : (0 ≤ (iI z ^^^ 10)) ↔ 0 ≤ z := by rw [xor10, show (0 : Int32) = iI 0 from rfl, iI_le (by decide) (by decide) (by omega) (by omega)]
  by_cases h : z < 0
  · rw [if_neg (fun q => by have := hx.mp q; omega), div_neg h (by omega)]
    rw [show (10 : Int32) = iI 10 from rfl, iI_mul]
    by_cases hd : -((-z) / 10) * 10 = z
    · rw [if_pos (congrArg iI hd)]
      congr 2; omega
    · rw [if_neg (fun q => hd ((iI_eq (by omega) (by omega) (by omega) (by omega)).mp q))]
      rw [show (1 : Int32) = iI 1 from rfl, iI_sub]
      congr 2; omega
  · rw [if_pos (hx.mpr (by omega)), div_nn (by omega) (by omega)]
def lpI (sp si le un ul : Nat → Int32) : Nat → Nat → Int → Int
  | 0, _, _ => 0
  | k + 1, i, t => (le i).toInt + ((sp i).toInt * (t - (si i).toInt)) / 10 - (ul i).toInt + (if un i < 0 then 0 else lpI sp si le un ul k (un i).toNatClampNeg t)
def ThOK (n : Nat) (sp si un : Nat → Int32) : Prop := n ≤ 8 ∧ ∀ i : Nat, i < n → (-40 ≤ (sp i).toInt ∧ (sp i).toInt ≤ 40) ∧ (0 ≤ (si i).toInt ∧ (si i).toInt ≤ 9999) ∧ (un i = -6 ∨ ∃ j : Nat, j < i ∧ un i = nI j)
theorem mul_bd {a b : Int} (h1 : -40 ≤ a) (h2 : a ≤ 40) (h3 : -40000 ≤ b) (h4 : b ≤ 40000) : -1600000 ≤ a * b ∧ a * b ≤ 1600000 := by
  have e1 : a * b ≤ 40 * 40000 ∧ -(40 * 40000) ≤ a * b := by
    rcases Int.le_total 0 a with h | h <;> rcases Int.le_total 0 b with g | g
    · exact ⟨Int.mul_le_mul h2 h4 g (by decide), Int.le_trans (by decide) (Int.mul_nonneg h g)⟩
    · refine ⟨Int.le_trans (Int.mul_nonpos_of_nonneg_of_nonpos h g) (by decide), ?_⟩
      have := Int.mul_le_mul h2 (show -b ≤ 40000 by omega) (by omega) (by decide)
      rw [Int.mul_neg] at this
      omega
    · refine ⟨Int.le_trans (Int.mul_nonpos_of_nonpos_of_nonneg h g) (by decide), ?_⟩
      have := Int.mul_le_mul (show -a ≤ 40 by omega) h4 g (by decide)
      rw [Int.neg_mul] at this
      omega
    · have := Int.mul_le_mul (show -a ≤ 40 by omega) (show -b ≤ 40000 by omega) (by omega) (by decide)
      rw [Int.neg_mul_neg] at this
      exact ⟨this, Int.le_trans (by decide) (Int.mul_nonneg_of_nonpos_of_nonpos h g)⟩
  omega
theorem left_loop {mn : Int32} {sp si le un ul : Nat → Int32} {n : Nat} {t : Int} (hn : mn = nI n) (hT : ThOK n sp si un) (h1 : -20000 ≤ t) (h2 : t ≤ 20000) : ∀ (i k N st : Nat) (v : Int32), i < n → i < k → i + 1 < N → st + i < 8 → f_X6_leftAt_L8 mn sp si le un ul (iI t) (fun (w14 : Int32) (w15 : Int32) (w16 : Int32) => some (w14)) N v (nI i) (nI st) = some (v + iI (lpI sp si le un ul k i t)) := by
  intro i
  induction i using Nat.strongRecOn with
  | ind i ih =>
    intro k N st v hi hk hN hst
    obtain ⟨k, rfl⟩ : ∃ z, k = z + 1 := ⟨k - 1, by omega⟩
    obtain ⟨N, rfl⟩ : ∃ z, N = z + 1 := ⟨N - 1, by omega⟩
    obtain ⟨hn8, hth⟩ := hT
    obtain ⟨⟨a1, a2⟩, ⟨a3, a4⟩, hu⟩ := hth i hi
    have hin : vp_in (nI i) 8 := vp_in_nI (by omega) (by decide)
    have hc : (nI i).toNatClampNeg = i := nI_clamp (by omega)
    have hb := mul_bd a1 a2 (b := t - (si i).toInt) (by omega) (by omega)
    have hfd : f_J9_floorDiv_7cf53 (sp (nI i).toNatClampNeg * (iI t - si (nI i).toNatClampNeg)) 10 = some (iI ((sp i).toInt * (t - (si i).toInt) / 10)) := by
      rw [hc, ← iI_as (si i), iI_sub, ← iI_as (sp i), iI_mul, iI_as, iI_as, fdiv_eq (by omega) (by omega)]
    rw [f_X6_leftAt_L8_s]
    rw [if_neg (show ¬ (8 : Int32) ≤ nI st from nI_ge (a := st) (b := 8) (by omega) (by decide)), if_neg (nI_pos (by omega)), hn, if_neg (nI_ge hi (by omega)), gd_ok hin, gd_ok hin, gd_ok hin, hfd, bn_some, gd_ok hin, bd_eq, gd_ok hin, bd_eq, bd_eq, hc, show nI st + 1 = nI (st + 1) from nI_1 st]
    have fin : ∀ z : Int, v + (le i + iI ((sp i).toInt * (t - (si i).toInt) / 10) - ul i) + iI z = v + iI ((le i).toInt + (sp i).toInt * (t - (si i).toInt) / 10 - (ul i).toInt + z) := fun z => by
      rw [← iI_as (le i), ← iI_as (ul i), iI_add, iI_sub, iI_as, iI_as, Int32.add_assoc, iI_add]
    rcases hu with hu | ⟨j, hj, hu⟩
    · rw [hu, lpI, if_pos (show un i < 0 by rw [hu]; decide)]
      obtain ⟨N, rfl⟩ : ∃ z, N = z + 1 := ⟨N - 1, by omega⟩
      rw [f_X6_leftAt_L8_s]
      have e0 := fin 0
      rw [show iI 0 = 0 from rfl, Int32.add_zero] at e0
      by_cases h8 : 8 ≤ nI (st + 1)
      · rw [if_pos h8, e0]
      · rw [if_neg h8, if_pos (by decide), e0]
    · rw [hu, lpI, if_neg (show ¬ un i < 0 by rw [hu]; exact nI_pos (by omega)), hu, nI_clamp (show j < 2 ^ 31 by omega)]
      have := ih j hj k N (st + 1) (v + (le i + iI ((sp i).toInt * (t - (si i).toInt) / 10) - ul i)) (by omega) (by omega) (by omega) (by omega)
      rw [hn] at this
      rw [this, fin]
theorem left_x {mn : Int32} {sp si le un ul : Nat → Int32} {n : Nat} {t : Int} (hn : mn = nI n) (hT : ThOK n sp si un) (h1 : -20000 ≤ t) (h2 : t ≤ 20000) {i : Nat} (hi : i < n) : f_X6_leftAt mn sp si le un ul (nI i) (iI t) = some (iI (lpI sp si le un ul 8 i t)) := by
  have hn8 := hT.1
  unfold f_X6_leftAt
  have := left_loop (le := le) (ul := ul) hn hT h1 h2 i 8 4000 0 0 hi (by omega) (by omega) (by omega)
  rw [show (0 : Int32) = nI 0 from rfl] at this ⊢
  rw [this, show nI 0 = 0 from rfl, Int32.zero_add]
theorem left_x_ground {mn : Int32} {sp si le un ul : Nat → Int32} {t : Int32} : f_X6_leftAt mn sp si le un ul (-6) t = some 0 := by
  unfold f_X6_leftAt
  rw [show (4000 : Nat) = 3999 + 1 from rfl, f_X6_leftAt_L8_s, if_neg (by decide), if_pos (by decide)]
theorem c_0 : (0 : Int32).toNatClampNeg = 0 := rfl
theorem loopI {σ β : Type} (F : Nat → σ → Nat → Option β) (n : Nat) (K : σ → Option β) (Inv : Nat → σ → Prop) (hend : ∀ N v, Inv n v → F (N + 1) v n = K v) (hstep : ∀ N v i, i < n → Inv i v → ∃ w, F (N + 1) v i = F N w (i + 1) ∧ Inv (i + 1) w) : ∀ (d i N : Nat) (v : σ), i + d = n → d < N → Inv i v → ∃ w, F N v i = K w ∧ Inv n w := by
  intro d
  induction d with
  | zero =>
    intro i N v h1 h2 h3
    obtain ⟨N, rfl⟩ : ∃ z, N = z + 1 := ⟨N - 1, by omega⟩
    obtain rfl : i = n := by omega
    exact ⟨v, hend N v h3, h3⟩
  | succ d ih =>
    intro i N v h1 h2 h3
    obtain ⟨N, rfl⟩ : ∃ z, N = z + 1 := ⟨N - 1, by omega⟩
    obtain ⟨w, e, hw⟩ := hstep N v i (by omega) h3
    rw [e]
    exact ih (i + 1) N w (by omega) (by omega) hw
def su : Nat → (Nat → Int32) → Int32
  | 0, _ => 0
  | n + 1, g => su n g + g n
theorem su_cg {n : Nat} {g h : Nat → Int32} (e : ∀ i, i < n → g i = h i) : su n g = su n h := by
  induction n with
  | zero => rfl
  | succ n ih => rw [su, su, ih (fun i hi => e i (by omega)), e n (by omega)]
theorem su_split (m n : Nat) (g : Nat → Int32) : su (m + n) g = su m g + su n (fun j => g (m + j)) := by
  induction n with
  | zero => rw [su, Nat.add_zero, Int32.add_zero]
  | succ n ih => rw [← Nat.add_assoc, su, su, ih, Int32.add_assoc]
theorem su_mul (m n : Nat) (g : Nat → Int32) : su (m * n) g = su m (fun i => su n (fun j => g (n * i + j))) := by
  induction m with
  | zero => rw [Nat.zero_mul]; rfl
  | succ m ih => rw [Nat.succ_mul, su_split, ih, su, Nat.mul_comm m n]
theorem su_bd {n B : Nat} {g : Nat → Int32} (h : ∀ i, i < n → ∃ z, z ≤ B ∧ g i = nI z) : ∃ z, z ≤ n * B ∧ su n g = nI z := by
  induction n with
  | zero => exact ⟨0, by omega, rfl⟩
  | succ n ih =>
    obtain ⟨z, hz, e⟩ := ih (fun i hi => h i (by omega))
    obtain ⟨y, hy, e'⟩ := h n (by omega)
    refine ⟨z + y, ?_, by rw [su, e, e', nI_add]⟩
    rw [Nat.succ_mul]; omega
theorem dv_lip {a x d : Int} (h1 : -40 ≤ a) (h2 : a ≤ 40) (hd : 0 ≤ d) : -(4 * d) ≤ a * (x + d) / 10 - a * x / 10 ∧ a * (x + d) / 10 - a * x / 10 ≤ 4 * d := by
  have e1 : a * (x + d) = a * x + a * d := Int.mul_add a x d
  have e2 : a * d ≤ 40 * d := Int.mul_le_mul_of_nonneg_right h2 hd
  have e3 : -40 * d ≤ a * d := Int.mul_le_mul_of_nonneg_right h1 hd
  rw [e1]
  generalize a * x = p at *
  generalize a * d = q at *
  omega
theorem lp_lip {sp si le un ul : Nat → Int32} {n : Nat} (hT : ThOK n sp si un) (t d : Int) (hd : 0 ≤ d) : ∀ (k i : Nat), i < n → -(4 * k * d) ≤ lpI sp si le un ul k i (t + d) - lpI sp si le un ul k i t ∧ lpI sp si le un ul k i (t + d) - lpI sp si le un ul k i t ≤ 4 * k * d := by
  intro k
  induction k with
  | zero => intro i hi; rw [lpI, lpI]; simp
  | succ k ih =>
    intro i hi
    obtain ⟨⟨a1, a2⟩, -, hu⟩ := hT.2 i hi
    have key := dv_lip (a := (sp i).toInt) (x := t - (si i).toInt) a1 a2 hd
    rw [show t - (si i).toInt + d = t + d - (si i).toInt by omega] at key
    rw [lpI, lpI]
    have e4 : 4 * ((k + 1 : Nat) : Int) * d = 4 * (k : Int) * d + 4 * d := by
      rw [Int.natCast_succ, Int.mul_add, Int.add_mul]; omega
    rw [e4]
    have h8 := hT.1
    rcases hu with hu | ⟨j, hj, hu⟩
    · have hz : un i < 0 := by rw [hu]; decide
      rw [if_pos hz, if_pos hz]
      have : 0 ≤ 4 * (k : Int) * d := Int.mul_nonneg (by omega) hd
      omega
    · have hz : ¬ un i < 0 := by rw [hu]; exact nI_pos (by omega)
      rw [if_neg hz, if_neg hz, hu, nI_clamp (show j < 2 ^ 31 by omega)]
      have := ih j (by omega)
      omega
theorem lp_fuel {sp si le un ul : Nat → Int32} {n : Nat} (hT : ThOK n sp si un) (t : Int) : ∀ (i k k' : Nat), i < n → i < k → i < k' → lpI sp si le un ul k i t = lpI sp si le un ul k' i t := by
  intro i
  induction i using Nat.strongRecOn with
  | ind i ih =>
    intro k k' hi hk hk'
    obtain ⟨k, rfl⟩ : ∃ z, k = z + 1 := ⟨k - 1, by omega⟩
    obtain ⟨k', rfl⟩ : ∃ z, k' = z + 1 := ⟨k' - 1, by omega⟩
    have h8 := hT.1
    obtain ⟨-, -, hu⟩ := hT.2 i hi
    rw [lpI, lpI]
    rcases hu with hu | ⟨j, hj, hu⟩
    · have hz : un i < 0 := by rw [hu]; decide
      rw [if_pos hz, if_pos hz]
    · have hz : ¬ un i < 0 := by rw [hu]; exact nI_pos (by omega)
      rw [if_neg hz, if_neg hz, hu, nI_clamp (show j < 2 ^ 31 by omega), ih j hj k k' (by omega) (by omega) (by omega)]
def PosB (n : Nat) (T : Int) (sp si le un ul : Nat → Int32) : Prop := ∀ i : Nat, i < n → -(23 + 32 * T) ≤ lpI sp si le un ul 8 i T ∧ lpI sp si le un ul 8 i T ≤ 23 + 32 * T
theorem PosB.later {n : Nat} {T : Int} {sp si le un ul : Nat → Int32} (hT : ThOK n sp si un) (h : PosB n T sp si le un ul) {t : Int} (ht : T ≤ t) : PosB n t sp si le un ul := by
  intro i hi
  have h1 := h i hi
  have h2 := lp_lip (le := le) (ul := ul) hT T (t - T) (by omega) 8 i hi
  rw [show T + (t - T) = t by omega] at h2
  omega
theorem lp_cg {sp si le un ul sp' si' le' un' ul' : Nat → Int32} {n : Nat} (hT : ThOK n sp si un) (t : Int) (e1 : ∀ i, i < n → sp' i = sp i) (e2 : ∀ i, i < n → si' i = si i) (e3 : ∀ i, i < n → le' i = le i) (e4 : ∀ i, i < n → un' i = un i) (e5 : ∀ i, i < n → ul' i = ul i) : ∀ (k i : Nat), i < n → lpI sp' si' le' un' ul' k i t = lpI sp si le un ul k i t := by
  intro k
  induction k with
  | zero => intro i _; rfl
  | succ k ih =>
    intro i hi
    have h8 := hT.1
    obtain ⟨-, -, hu⟩ := hT.2 i hi
    rw [lpI, lpI, e1 i hi, e2 i hi, e3 i hi, e4 i hi, e5 i hi]
    rcases hu with hu | ⟨j, hj, hu⟩
    · have hz : un i < 0 := by rw [hu]; decide
      rw [if_pos hz, if_pos hz]
    · have hz : ¬ un i < 0 := by rw [hu]; exact nI_pos (by omega)
      rw [if_neg hz, if_neg hz, hu, nI_clamp (show j < 2 ^ 31 by omega), ih j (by omega)]
theorem c_1 : (1 : Int32).toNatClampNeg = 1 := rfl
theorem c_2 : (2 : Int32).toNatClampNeg = 2 := rfl
theorem c_3 : (3 : Int32).toNatClampNeg = 3 := rfl
theorem c_4 : (4 : Int32).toNatClampNeg = 4 := rfl
theorem c_5 : (5 : Int32).toNatClampNeg = 5 := rfl
theorem c_6 : (6 : Int32).toNatClampNeg = 6 := rfl
theorem c_7 : (7 : Int32).toNatClampNeg = 7 := rfl
theorem c_8 : (8 : Int32).toNatClampNeg = 8 := rfl
theorem c_24 : (24 : Int32).toNatClampNeg = 24 := rfl
theorem c_384 : (384 : Int32).toNatClampNeg = 384 := rfl
theorem g04 {α : Type} (o : Option α) : gd 0 4 o = o := gd_ok (vp_in_nI (n := 0) (by decide) (by decide))
theorem g14 {α : Type} (o : Option α) : gd 1 4 o = o := gd_ok (vp_in_nI (n := 1) (by decide) (by decide))
theorem g24 {α : Type} (o : Option α) : gd 2 4 o = o := gd_ok (vp_in_nI (n := 2) (by decide) (by decide))
theorem g34 {α : Type} (o : Option α) : gd 3 4 o = o := gd_ok (vp_in_nI (n := 3) (by decide) (by decide))
theorem upd_at (f : Nat → Int32) (k : Nat) (x : Int32) : upd f k x k = x := if_pos rfl
theorem upd_ne {f : Nat → Int32} {k j : Nat} (x : Int32) (h : ¬ j = k) : upd f k x j = f j := if_neg h
abbrev inl (ln hi : Nat → Int32) (k l : Nat) : Prop := ln k ≤ nI l ∧ nI l ≤ ln k + hi k - 1
abbrev inc (L : Nat → Nat → Int) (wi : Nat → Int32) (k c t : Nat) : Prop := iI (L k t) ≤ nI c ∧ nI c ≤ iI (L k t) + wi k - 1
def cv (ln hi wi br : Nat → Int32) (L : Nat → Nat → Int) (l c t k : Nat) : Int32 := if inl ln hi k l then (if inc L wi k c t then br k else 0) else 0
def bs (ln hi wi br : Nat → Int32) (L : Nat → Nat → Int) (n l c t : Nat) : Int32 := su n (cv ln hi wi br L l c t)
def m30 (x : Int32) : Int32 := if 30 ≤ x then 30 else x
def li (se : Nat → Int32) (ft fk a : Int32) : Int32 := if ft ≤ a ∧ a ≤ ft + fk - 1 then 3 else if se 2 ≤ 0 then 1 else if a - a / se 2 * se 2 < se 2 / 2 then 1 else 0
def seI (se ln hi wi br : Nat → Int32) (L : Nat → Nat → Int) (ft fk : Int32) (n l c t : Nat) : Int32 := m30 (bs ln hi wi br L n l c t) * li se ft fk (nI t)
abbrev LL (sp si le un ul : Nat → Int32) : Nat → Nat → Int := fun k t => lpI sp si le un ul 8 k (t : Int)
theorem light_c {se : Nat → Int32} {ft fk a : Int32} : f_X5_lightAt se ft fk a = some (li se ft fk a) := by
  unfold f_X5_lightAt li
  rw [wi_eq]
  simp only [bd_eq, bn_some, g24, c_2]
  by_cases h : ft ≤ a ∧ a ≤ ft + fk - 1
  · rw [if_pos h, if_neg (fun z => (bI_0 _).mp z h)]
  · rw [if_neg h, if_pos ((bI_0 _).mpr h)]
    by_cases h0 : se 2 ≤ 0
    · rw [if_pos h0, if_pos h0]
    · rw [if_neg h0, if_neg h0, gz_ok (fun z => h0 (by rw [z]; decide))]
      by_cases h1 : a - a / se 2 * se 2 < se 2 / 2
      · rw [if_pos h1, if_pos h1]
      · rw [if_neg h1, if_neg h1]
theorem fill24 (r0 : Nat → Int32) : ∃ r, f_J7_fill_53178 r0 0 = some r ∧ ∀ j, j < 24 → r j = 0 := by
  obtain ⟨w, e, hw⟩ := loopI (fun N v i => f_J7_fill_53178_L5 0 (fun (w7 : Int32) (w8 : Nat → Int32) => some w8) N (nI i) v) 24 (fun v => some v) (fun i v => ∀ j, j < i → v j = 0) (fun N v h => by
    rw [f_J7_fill_53178_L5_s, if_pos (by decide)]) (fun N v i hi h => by
    refine ⟨upd v i 0, ?_, fun j hj => ?_⟩
    · rw [f_J7_fill_53178_L5_s, if_neg (show ¬ (24 : Int32) ≤ nI i from nI_ge hi (by decide)), gd_ok (vp_in_nI hi (by decide)), bd_eq, nI_clamp (by omega), nI_1]
    · by_cases q : j = i
      · rw [q, upd_at]
      · rw [upd_ne _ q]; exact h j (by omega)) 24 0 4000 r0 rfl (by decide) (fun j h => absurd h (by omega))
  exact ⟨w, e, hw⟩
theorem fill25 (r0 : Nat → Int32) : ∃ r, f_J7_fill_53178_25 r0 0 = some r ∧ ∀ j, j < 25 → r j = 0 := by
  obtain ⟨w, e, hw⟩ := loopI (fun N v i => f_J7_fill_53178_25_L5 0 (fun (w7 : Int32) (w8 : Nat → Int32) => some w8) N (nI i) v) 25 (fun v => some v) (fun i v => ∀ j, j < i → v j = 0) (fun N v h => by
    rw [f_J7_fill_53178_25_L5_s, if_pos (by decide)]) (fun N v i hi h => by
    refine ⟨upd v i 0, ?_, fun j hj => ?_⟩
    · rw [f_J7_fill_53178_25_L5_s, if_neg (show ¬ (25 : Int32) ≤ nI i from nI_ge hi (by decide)), gd_ok (vp_in_nI hi (by decide)), bd_eq, nI_clamp (by omega), nI_1]
    · by_cases q : j = i
      · rw [q, upd_at]
      · rw [upd_ne _ q]; exact h j (by omega)) 25 0 4000 r0 rfl (by decide) (fun j h => absurd h (by omega))
  exact ⟨w, e, hw⟩
theorem su_upd (r : Nat → Int32) (e : Nat) (x : Int32) : ∀ c : Nat, su (c + 1) (upd r e (r e + x)) = su (c + 1) r + (if e ≤ c then x else 0) := by
  intro c
  induction c with
  | zero =>
    rw [su, su, su, su]
    by_cases h : e = 0
    · rw [h, upd_at, if_pos (Nat.le_refl 0), Int32.add_assoc]
    · rw [upd_ne _ (fun z => h z.symm), if_neg (by omega), Int32.add_zero]
  | succ c ih =>
    show su (c + 1) (upd r e (r e + x)) + upd r e (r e + x) (c + 1) = su (c + 1) r + r (c + 1) + _
    rw [ih]
    by_cases h : e = c + 1
    · rw [h, upd_at, if_neg (by omega), if_pos (Nat.le_refl _), Int32.add_zero, Int32.add_assoc]
    · rw [upd_ne _ (fun z => h z.symm)]
      by_cases h2 : e ≤ c
      · rw [if_pos h2, if_pos (by omega), Int32.add_assoc, Int32.add_assoc, Int32.add_comm x]
      · rw [if_neg h2, if_neg (by omega), Int32.add_zero, Int32.add_zero]
theorem edge_eq {z : Int} (h1 : -2000000 ≤ z) (h2 : z ≤ 2000000) : ∃ e : Nat, e < 25 ∧ f_X0_nearestEdge (iI z) = some (nI e) ∧ ∀ c : Nat, c < 24 → (e ≤ c ↔ z ≤ c) := by
  unfold f_X0_nearestEdge
  simp only [bd_eq]
  have q : ∀ a b : Int, -2000000 ≤ a → a ≤ 2000000 → -2000000 ≤ b → b ≤ 2000000 → (iI a < iI b ↔ a < b) := fun a b a1 a2 b1 b2 => iI_lt (by omega) (by omega) (by omega) (by omega)
  by_cases ha : z < 24
  · rw [if_pos (show iI z < (24 : Int32) from (q z 24 h1 h2 (by decide) (by decide)).mpr ha)]
    by_cases hb : 0 < z
    · rw [if_pos (show (0 : Int32) < iI z from (q 0 z (by decide) (by decide) h1 h2).mpr hb)]
      obtain ⟨e, rfl⟩ := Int.eq_ofNat_of_zero_le (Int.le_of_lt hb)
      exact ⟨e, by omega, by rw [iI_nat], fun c hc => by omega⟩
    · rw [if_neg (show ¬ (0 : Int32) < iI z from fun y => hb ((q 0 z (by decide) (by decide) h1 h2).mp y))]
      exact ⟨0, by omega, rfl, fun c hc => by omega⟩
  · rw [if_neg (show ¬ iI z < (24 : Int32) from fun y => ha ((q z 24 h1 h2 (by decide) (by decide)).mp y)), if_pos (by decide)]
    exact ⟨24, by omega, rfl, fun c hc => by omega⟩
theorem rise_1 (b : Int32) {e1 e2 c : Nat} {z w : Int} (hw : 1 ≤ w) (h1 : e1 ≤ c ↔ z ≤ c) (h2 : e2 ≤ c ↔ z + w ≤ c) : (if e1 ≤ c then b else 0) + (if e2 ≤ c then -b else 0) = if z ≤ c ∧ c ≤ z + w - 1 then b else 0 := by
  by_cases a1 : z ≤ c
  · rw [if_pos (h1.mpr a1)]
    by_cases a2 : z + w ≤ c
    · rw [if_pos (h2.mpr a2), if_neg (by omega), ← Int32.sub_eq_add_neg, Int32.sub_self]
    · rw [if_neg (fun y => a2 (h2.mp y)), if_pos (by omega), Int32.add_zero]
  · rw [if_neg (fun y => a1 (h1.mp y)), if_neg (fun y => a1 (by have := h2.mp y; omega)), if_neg (fun y => a1 y.1), Int32.add_zero]
theorem rises_c {n T : Nat} {mn : Int32} {ln hi wi br sp si le un ul : Nat → Int32} (ris : Nat → Int32) (hn : mn = nI n) (hT : ThOK n sp si un) (hB : PosB n (T : Int) sp si le un ul) (hW : ∀ i, i < n → ∃ z : Nat, 1 ≤ z ∧ z ≤ 24 ∧ wi i = nI z) {l t : Nat} (htT : T ≤ t) (ht : t ≤ 20000) : ∃ r, f_X0_findRises ris mn ln hi wi br sp si le un ul (nI l) (nI t) = some r ∧ ∀ c, c < 24 → su (c + 1) r = bs ln hi wi br (LL sp si le un ul) n l c t := by
  have n8 := hT.1
  obtain ⟨r1, f1, f2⟩ := fill25 ris
  unfold f_X0_findRises
  rw [f1, bn_some]
  have hBt := hB.later hT (t := (t : Int)) (by omega)
  obtain ⟨w, e, hw⟩ := loopI (fun N v i => f_X0_findRises_L11 mn ln hi wi br sp si le un ul (nI l) (nI t) (fun (w15 : Int32) (w16 : Nat → Int32) => some w16) N (nI i) v) n (fun v => some v) (fun k v => ∀ c, c < 24 → su (c + 1) v = bs ln hi wi br (LL sp si le un ul) k l c t) (fun N v h => by
    rw [f_X0_findRises_L11_s, hn, if_pos (Int32.le_refl _)]) (fun N v i hi_ h => by
    have i8 : vp_in (nI i) 8 := vp_in_nI (by omega) (by decide)
    have hc : (nI i).toNatClampNeg = i := nI_clamp (by omega)
    have el : f_X6_isInLine ln hi (nI i) (nI l) = some (bI (inl ln hi i l)) := by
      unfold f_X6_isInLine
      rw [gd_ok i8, gd_ok i8, gd_ok i8, hc, wi_eq, bn_some, gb_ok (bI_01 _)]
    by_cases hin : inl ln hi i l
    · obtain ⟨W, w1, w2, w3⟩ := hW i hi_
      have hp := hBt i hi_
      obtain ⟨e1, a1, a2, a3⟩ := edge_eq (z := lpI sp si le un ul 8 i t) (by omega) (by omega)
      obtain ⟨e2, b1, b2, b3⟩ := edge_eq (z := lpI sp si le un ul 8 i t + W) (by omega) (by omega)
      refine ⟨upd (upd v e1 (v e1 + br i)) e2 ((upd v e1 (v e1 + br i)) e2 - br i), ?_, fun c hc => ?_⟩
      · rw [f_X0_findRises_L11_s, hn, if_neg (nI_ge hi_ (by omega)), el, bn_some, if_neg (fun z => (bI_0 _).mp z hin), ← hn, ← iI_nat t, left_x hn hT (by omega) (by omega) hi_, bn_some, a2, bn_some, hc, w3, ← iI_nat W, iI_add, b2]
        have g1 : vp_in (nI e1) 25 := vp_in_nI a1 (by decide)
        have g2 : vp_in (nI e2) 25 := vp_in_nI b1 (by decide)
        have d1 : (nI e1).toNatClampNeg = e1 := nI_clamp (by omega)
        have d2 : (nI e2).toNatClampNeg = e2 := nI_clamp (by omega)
        simp only [gd_ok g1, gd_ok g2, gd_ok i8, bn_some, bd_eq, d1, d2, nI_1]
      · rw [Int32.sub_eq_add_neg, su_upd, su_upd, h c hc, bs, bs, su, Int32.add_assoc, rise_1 (br i) (z := lpI sp si le un ul 8 i t) (w := W) (by omega) (a3 c hc) (b3 c hc)]
        unfold cv
        rw [if_pos hin]
        have hq : inc (LL sp si le un ul) wi i c t ↔ (lpI sp si le un ul 8 i t ≤ c ∧ (c : Int) ≤ lpI sp si le un ul 8 i t + W - 1) := by
          unfold inc LL
          rw [w3, ← iI_nat c, ← iI_nat W, iI_add, show (1 : Int32) = iI 1 from rfl, iI_sub, iI_le (by omega) (by omega) (by omega) (by omega), iI_le (by omega) (by omega) (by omega) (by omega)]
        by_cases hz : inc (LL sp si le un ul) wi i c t
        · rw [if_pos hz, if_pos (hq.mp hz)]
        · rw [if_neg hz, if_neg (fun y => hz (hq.mpr y))]
    · refine ⟨v, ?_, fun c hc => ?_⟩
      · rw [f_X0_findRises_L11_s, hn, if_neg (nI_ge hi_ (by omega)), el, bn_some, if_pos ((bI_0 _).mpr hin), bd_eq, nI_1]
      · rw [h c hc, bs, bs, su]
        unfold cv
        rw [if_neg hin, Int32.add_zero]) n 0 4000 r1 (by omega) (by omega) (fun c hc => by
    show su (c + 1) r1 = 0
    obtain ⟨z, z1, z2⟩ := su_bd (n := c + 1) (B := 0) (g := r1) (fun i hi => ⟨0, Nat.le_refl 0, f2 i (by omega)⟩)
    obtain rfl : z = 0 := by omega
    exact z2)
  exact ⟨w, e, hw⟩
theorem addl_c (ris row : Nat → Int32) (a : Int32) : ∃ r, f_X0_addLight ris row a = some r ∧ ∀ c, c < 24 → r c = row c + m30 (su (c + 1) ris) * a := by
  unfold f_X0_addLight
  obtain ⟨w, e, hw⟩ := loopI (fun N (v : Int32 × (Nat → Int32)) i => f_X0_addLight_L5 ris a (fun (w11 : Int32) (w12 : Int32) (w13 : Nat → Int32) => some w13) N v.1 (nI i) v.2) 24 (fun v => some v.2) (fun i v => v.1 = su i ris ∧ (∀ c, c < i → v.2 c = row c + m30 (su (c + 1) ris) * a) ∧ ∀ c, i ≤ c → v.2 c = row c) (fun N v h => by
    rw [f_X0_addLight_L5_s, if_pos (by decide)]) (fun N v i hi h => by
    obtain ⟨h1, h2, h3⟩ := h
    refine ⟨(v.1 + ris i, upd v.2 i (v.2 i + m30 (v.1 + ris i) * a)), ?_, by rw [h1, su], fun c hc => ?_, fun c hc => by
      show upd v.2 i _ c = _
      rw [upd_ne _ (by omega)]; exact h3 c (by omega)⟩
    · have hm : (if v.1 + ris i < 30 then v.1 + ris i else 30) = m30 (v.1 + ris i) := by
        unfold m30
        by_cases q : v.1 + ris i < 30
        · rw [if_pos q, if_neg (Int32.not_le.mpr q)]
        · rw [if_neg q, if_pos (Int32.not_lt.mp q)]
      rw [f_X0_addLight_L5_s, if_neg (show ¬ (24 : Int32) ≤ nI i from nI_ge hi (by decide)), gd_ok (vp_in_nI (by omega) (by decide))]
      have g : vp_in (nI i) 24 := vp_in_nI hi (by decide)
      have hc : (nI i).toNatClampNeg = i := nI_clamp (by omega)
      simp only [bd_eq, gd_ok g, hc, nI_1, hm]
    · show upd v.2 i _ c = _
      by_cases q : c = i
      · rw [q, upd_at, h3 i (Nat.le_refl i), h1, su]
      · rw [upd_ne _ q]; exact h2 c (by omega)) 24 0 4000 (0, row) rfl (by decide) ⟨rfl, fun c hc => absurd hc (by omega), fun c hc => rfl⟩
  exact ⟨w.2, e, hw.2.1⟩
theorem m30_nn (x : Int32) (h : 0 ≤ x) : ∃ z : Nat, z ≤ 30 ∧ m30 x = nI z := by
  unfold m30
  by_cases q : 30 ≤ x
  · rw [if_pos q]; exact ⟨30, Nat.le_refl _, rfl⟩
  · rw [if_neg q]
    obtain ⟨j, hj, e⟩ := nI_of2 (M := 30) (n := 30) rfl (Int32.not_lt.mpr h) (Int32.le_of_lt (Int32.not_le.mp q))
    exact ⟨j, hj, e⟩
theorem li_nn (se : Nat → Int32) (ft fk a : Int32) : ∃ z : Nat, z ≤ 3 ∧ li se ft fk a = nI z := by
  unfold li
  split
  · exact ⟨3, by omega, rfl⟩
  · split
    · exact ⟨1, by omega, rfl⟩
    · split
      · exact ⟨1, by omega, rfl⟩
      · exact ⟨0, by omega, rfl⟩
theorem bs_nn {n : Nat} {ln hi wi br : Nat → Int32} {L : Nat → Nat → Int} {l c t : Nat} (hb : ∀ i, i < n → ∃ z : Nat, 1 ≤ z ∧ z ≤ 9 ∧ br i = nI z) (n8 : n ≤ 8) : 0 ≤ bs ln hi wi br L n l c t := by
  obtain ⟨z, z1, z2⟩ := su_bd (n := n) (B := 9) (g := cv ln hi wi br L l c t) (fun i hi => by
    obtain ⟨z, -, z1, z2⟩ := hb i hi
    unfold cv
    split
    · split
      · exact ⟨z, z1, z2⟩
      · exact ⟨0, by omega, rfl⟩
    · exact ⟨0, by omega, rfl⟩)
  unfold bs
  rw [z2]; exact nI_pos' (by omega)
theorem seI_nn {n : Nat} {se ln hi wi br : Nat → Int32} {L : Nat → Nat → Int} {ft fk : Int32} {l c t : Nat} (hb : ∀ i, i < n → ∃ z : Nat, 1 ≤ z ∧ z ≤ 9 ∧ br i = nI z) (n8 : n ≤ 8) : ∃ z : Nat, z ≤ 90 ∧ seI se ln hi wi br L ft fk n l c t = nI z := by
  unfold seI
  obtain ⟨a, a1, a2⟩ := m30_nn _ (bs_nn (ln := ln) (hi := hi) (wi := wi) (L := L) (l := l) (c := c) (t := t) hb n8)
  obtain ⟨b, b1, b2⟩ := li_nn se ft fk (nI t)
  rw [a2, b2, pk_mul]
  exact ⟨a * b, Nat.le_trans (Nat.mul_le_mul a1 b1) (by decide), rfl⟩
def exI (se ln hi wi br : Nat → Int32) (L : Nat → Nat → Int) (ft fk : Int32) (n l c fr d : Nat) : Int32 := su d (fun j => seI se ln hi wi br L ft fk n l c (fr + j))
theorem exI_nn {n : Nat} {se ln hi wi br : Nat → Int32} {L : Nat → Nat → Int} {ft fk : Int32} {l c fr d : Nat} (hb : ∀ i, i < n → ∃ z : Nat, 1 ≤ z ∧ z ≤ 9 ∧ br i = nI z) (n8 : n ≤ 8) (hd : d ≤ 20) : 0 ≤ exI se ln hi wi br L ft fk n l c fr d := by
  obtain ⟨z, z1, z2⟩ := su_bd (n := d) (B := 90) (g := fun j => seI se ln hi wi br L ft fk n l c (fr + j)) (fun i hi => seI_nn hb n8)
  unfold exI
  rw [z2]; exact nI_pos' (by omega)
theorem expose_c {n T : Nat} {mn ft fk : Int32} {se ln hi wi br sp si le un ul : Nat → Int32} (ris row : Nat → Int32) (hn : mn = nI n) (hT : ThOK n sp si un) (hB : PosB n (T : Int) sp si le un ul) (hW : ∀ i, i < n → ∃ z : Nat, 1 ≤ z ∧ z ≤ 24 ∧ wi i = nI z) {l fr d : Nat} (htT : T ≤ fr) (ht : fr + d ≤ 20000) (hd : d ≤ 20) : ∃ r, f_X0_exposeLine ris se mn ln hi wi br sp si le un ul ft fk row (nI l) (nI fr) (nI d) = some r ∧ ∀ c, c < 24 → r.2 c = exI se ln hi wi br (LL sp si le un ul) ft fk n l c fr d := by
  unfold f_X0_exposeLine
  obtain ⟨r1, f1, f2⟩ := fill24 row
  rw [f1, bn_some]
  obtain ⟨w, e, hw⟩ := loopI (fun N (v : (Nat → Int32) × (Nat → Int32)) i => f_X0_exposeLine_L9 se mn ln hi wi br sp si le un ul ft fk (nI l) (nI fr) (nI d) (fun (w15 : Int32) (w16 : Nat → Int32) (w17 : Nat → Int32) => some (w16, w17)) N (nI (fr + i)) v.1 v.2) d (fun v => some v) (fun i v => ∀ c, c < 24 → v.2 c = exI se ln hi wi br (LL sp si le un ul) ft fk n l c fr i) (fun N v h => by
    rw [f_X0_exposeLine_L9_s, nI_add, if_pos (Int32.le_refl _)]) (fun N v i hi_ h => by
    by_cases h0 : li se ft fk (nI (fr + i)) = 0
    · refine ⟨v, ?_, fun c hc => ?_⟩
      · rw [f_X0_exposeLine_L9_s, nI_add, if_neg (nI_ge (by omega) (by omega)), light_c, bn_some, if_pos h0, bd_eq, nI_1]; rfl
      · rw [h c hc, exI, exI, su]
        show _ = _ + m30 _ * _
        rw [h0, Int32.mul_zero, Int32.add_zero]
    · obtain ⟨rs, g1, g2⟩ := rises_c (br := br) (ln := ln) (hi := hi) (l := l) (t := fr + i) v.1 hn hT hB hW (by omega) (by omega)
      obtain ⟨rw_, k1, k2⟩ := addl_c rs v.2 (li se ft fk (nI (fr + i)))
      refine ⟨(rs, rw_), ?_, fun c hc => ?_⟩
      · rw [f_X0_exposeLine_L9_s, nI_add, if_neg (nI_ge (by omega) (by omega)), light_c, bn_some, if_neg h0, g1, bn_some, k1, bn_some, bd_eq, nI_1]; rfl
      · show rw_ c = _
        rw [k2 c hc, h c hc, g2 c hc, exI, exI, su]
        rfl) d 0 4000 (ris, r1) (by omega) (by omega) (fun c hc => f2 c hc)
  exact ⟨w, e, hw⟩
theorem nI_sub {a b : Nat} (h : b ≤ a) : nI a - nI b = nI (a - b) := by
  rw [← iI_nat, ← iI_nat, ← iI_nat, iI_sub, Int.ofNat_sub h]
